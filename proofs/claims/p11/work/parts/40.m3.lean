section
/-! FUNCTIONS of the reference: what its methods answer, over the row all[] (f) -/
theorem FR.cell {S : List Nat} {M N : mm_M} (h : FR S M N) {i : Nat} (hi : i ∉ S) : N.1 i = M.1 i := funext fun k => h.1 i k hi
theorem wI_cell {M M' : mm_M} {i k j : Nat} {v : Int32} (e : M' = wI M i k v) (h : j ≠ i) : M'.1 j = M.1 j := by rw [e]; funext b; exact u2_a _ _ h
theorem wJ_cell {M M' : mm_M} {i k j : Nat} {v : Int64} (e : M' = wJ M i k v) : M'.1 j = M.1 j := by rw [e]
theorem wP_cell {M M' : mm_M} {i k j v : Nat} (e : M' = wP M i k v) : M'.1 j = M.1 j := by rw [e]
def evF (f : Nat → Int32) : Int := pw2 (f 26).toInt - 1
def snF (f : Nat → Int32) : Int := andI (evF f) (-1 - (f 28).toInt)
def shF (f : Nat → Int32) (s : Int) : Int := if andI (snF f) (-1 - s) = 0 then 1 else 0
theorem shF_s (f : Nat → Int32) (s : Int) : andI (snF f) (-1 - s) = 0 ∧ shF f s = 1 ∨ ¬ andI (snF f) (-1 - s) = 0 ∧ shF f s = 0 := by
  unfold shF; split <;> simp [*]
def iiF (a b : Int) : Int := if andJ (shrJ a b) 1 = 1 then 1 else 0
theorem iiF_s (a b : Int) : andJ (shrJ a b) 1 = 1 ∧ iiF a b = 1 ∨ ¬ andJ (shrJ a b) 1 = 1 ∧ iiF a b = 0 := by
  unfold iiF; split <;> simp [*]
def bsF (s : Int) : Nat → Int
  | 0 => 0
  | k + 1 => bsF s k + andI (shrI s (k : Int)) 1
theorem bsF_s (s k : Int) (h : 0 ≤ k) : bsF s (k + 1).toNat = bsF s k.toNat + andI (shrI s k) 1 := by
  have e : (k + 1).toNat = k.toNat + 1 := by omega
  rw [e, bsF, Int.toNat_of_nonneg h]
def clF (v : Int) : Int := if 1000000 < v then 1000000 else if v < -1000000 then -1000000 else v
theorem clF_s (v : Int) : 1000000 < v ∧ clF v = 1000000 ∨ ¬ 1000000 < v ∧ v < -1000000 ∧ clF v = -1000000 ∨ ¬ 1000000 < v ∧ ¬ v < -1000000 ∧ clF v = v := by
  unfold clF; (repeat' split) <;> omega
def btF (c a b : Int) : Int := if c = 3003 then (if a = b then 1 else 0) else if c = 3004 then (if a < b then 1 else 0) else if c = 3005 then (if b < a then 1 else 0) else if c = 3007 then andI a b else if c = 3008 then orI a b else if c = 3000 then clF (a + b) else if c = 3001 then clF (a - b) else clF (mulJ a b)
theorem btF_s (c a b : Int) : c = 3003 ∧ (a = b ∧ btF c a b = 1 ∨ ¬ a = b ∧ btF c a b = 0) ∨ c = 3004 ∧ (a < b ∧ btF c a b = 1 ∨ ¬ a < b ∧ btF c a b = 0) ∨ c = 3005 ∧ (b < a ∧ btF c a b = 1 ∨ ¬ b < a ∧ btF c a b = 0) ∨ c = 3007 ∧ btF c a b = andI a b ∨ c = 3008 ∧ btF c a b = orI a b ∨ c = 3000 ∧ btF c a b = clF (a + b) ∨ c = 3001 ∧ btF c a b = clF (a - b) ∨ (¬ c = 3003 ∧ ¬ c = 3004 ∧ ¬ c = 3005 ∧ ¬ c = 3007 ∧ ¬ c = 3008 ∧ ¬ c = 3000 ∧ ¬ c = 3001) ∧ btF c a b = clF (mulJ a b) := by
  by_cases h1 : c = 3003
  · have e : btF c a b = if a = b then 1 else 0 := by unfold btF; rw [if_pos h1]
    left; refine ⟨h1, ?_⟩
    by_cases q : a = b
    · left; exact ⟨q, by rw [e, if_pos q]⟩
    · right; exact ⟨q, by rw [e, if_neg q]⟩
  by_cases h2 : c = 3004
  · have e : btF c a b = if a < b then 1 else 0 := by unfold btF; rw [if_neg h1, if_pos h2]
    right; left; refine ⟨h2, ?_⟩
    by_cases q : a < b
    · left; exact ⟨q, by rw [e, if_pos q]⟩
    · right; exact ⟨q, by rw [e, if_neg q]⟩
  by_cases h3 : c = 3005
  · have e : btF c a b = if b < a then 1 else 0 := by unfold btF; rw [if_neg h1, if_neg h2, if_pos h3]
    right; right; left; refine ⟨h3, ?_⟩
    by_cases q : b < a
    · left; exact ⟨q, by rw [e, if_pos q]⟩
    · right; exact ⟨q, by rw [e, if_neg q]⟩
  by_cases h4 : c = 3007
  · right; right; right; left; exact ⟨h4, by unfold btF; rw [if_neg h1, if_neg h2, if_neg h3, if_pos h4]⟩
  by_cases h5 : c = 3008
  · right; right; right; right; left; exact ⟨h5, by unfold btF; rw [if_neg h1, if_neg h2, if_neg h3, if_neg h4, if_pos h5]⟩
  by_cases h6 : c = 3000
  · right; right; right; right; right; left; exact ⟨h6, by unfold btF; rw [if_neg h1, if_neg h2, if_neg h3, if_neg h4, if_neg h5, if_pos h6]⟩
  by_cases h7 : c = 3001
  · right; right; right; right; right; right; left; exact ⟨h7, by unfold btF; rw [if_neg h1, if_neg h2, if_neg h3, if_neg h4, if_neg h5, if_neg h6, if_pos h7]⟩
  right; right; right; right; right; right; right
  exact ⟨⟨h1, h2, h3, h4, h5, h6, h7⟩, by unfold btF; rw [if_neg h1, if_neg h2, if_neg h3, if_neg h4, if_neg h5, if_neg h6, if_neg h7]⟩
/-- the words of a law, by their places -/
def wdF (f : Nat → Int32) (b k s : Int) (j : Nat) : Int := if j = 0 then b else if j = 1 then (f (8 + b).toNat).toInt else if j = 2 then (f (14 + b).toNat).toInt else if j = 3 then k else if j = 4 then (f (33 + k).toNat).toInt else if j = 5 then (f (41 + k).toNat).toInt else if j = 6 then bsF s (8 : Int).toNat else andI (shrI s k) 1
def pvF (W : Nat → Int) (c : Int) : Int := if c < 1000 then c else W (c - 1000).toNat
theorem pvF_s (W : Nat → Int) (c : Int) : c < 1000 ∧ pvF W c = c ∨ ¬ c < 1000 ∧ pvF W c = W (c - 1000).toNat := by
  unfold pvF; split <;> simp [*]
def uI (g : Nat → Int) (n : Nat) (v : Int) : Nat → Int := fun j => if j = n then v else g j
/-- one sign of a law's code, over a stack -/
def rkT (W : Nat → Int) (c : Int) (p : Int × (Nat → Int)) : Int × (Nat → Int) :=
  if c < 3000 then (p.1 + 1, uI p.2 p.1.toNat (pvF W c)) else if c = 3006 then (p.1, uI p.2 (p.1 - 1).toNat (subI 1 (p.2 (p.1 - 1).toNat))) else (p.1 - 1, uI p.2 (p.1 - 1 - 1).toNat (btF c (p.2 (p.1 - 1 - 1).toNat) (p.2 (p.1 - 1).toNat)))
def rkS (f : Nat → Int32) (W : Nat → Int) (o : Int) : Nat → Int × (Nat → Int)
  | 0 => (0, fun _ => 0)
  | i + 1 => rkT W (f (o + (i : Int)).toNat).toInt (rkS f W o i)
theorem rkS_s (f : Nat → Int32) (W : Nat → Int) (o i : Int) (h : 0 ≤ i) : rkS f W o (i + 1).toNat = rkT W (f (o + i).toNat).toInt (rkS f W o i.toNat) := by
  have e : (i + 1).toNat = i.toNat + 1 := by omega
  rw [e, rkS, Int.toNat_of_nonneg h]
def dqF (f : Nat → Int32) (o : Int) : Nat → Int
  | 0 => 0
  | i + 1 => if (f (o + (i : Int)).toNat).toInt < 3000 then dqF f o i + 1 else if (f (o + (i : Int)).toNat).toInt = 3006 then dqF f o i else dqF f o i - 1
theorem rkS_1 (f : Nat → Int32) (W : Nat → Int) (o : Int) : ∀ n, (rkS f W o n).1 = dqF f o n
  | 0 => rfl
  | n + 1 => by
    rw [rkS, dqF, rkT]
    split
    · simp only []; rw [rkS_1 f W o n]
    · split
      · simp only []; rw [rkS_1 f W o n]
      · simp only []; rw [rkS_1 f W o n]
def okc (c d : Int) : Prop := c < 3000 ∧ 0 ≤ c ∧ c ≤ 1007 ∨ c = 3006 ∧ 1 ≤ d ∨ 3000 ≤ c ∧ ¬ c = 3006 ∧ 2 ≤ d
/-- a law's code is well formed: from o on, n signs -/
def zwS (f : Nat → Int32) (o : Int) (n : Int) : Prop := ∀ i : Nat, (i : Int) < n → okc (f (o + (i : Int)).toNat).toInt (dqF f o i)
def zwL (f : Nat → Int32) (l : Nat) : Prop := (f (4 + l)).toInt + (f (6 + l)).toInt ≤ 900 ∧ zwS f (281 + (f (4 + l)).toInt) (f (6 + l)).toInt ∧ ((f (2 + l)).toInt = 0 ∨ 1 ≤ dqF f (281 + (f (4 + l)).toInt) (f (6 + l)).toInt.toNat)
def zwB (f : Nat → Int32) : Prop := zwL f 0 ∧ zwL f 1
def CWK (pr : Nat → Nat → Bool) (Kz : mm_M) : Prop := ∀ N, INV pr Kz N → zwB (N.1 99)
theorem rk_at {f : Nat → Int32} {o n : Int} (W : Nat → Int) (h : zwS f o n) (i : Int) (h0 : 0 ≤ i) (h1 : i < n) : let c := (f (o + i).toNat).toInt; let d := (rkS f W o i.toNat).1; let d' := (rkS f W o (i + 1).toNat).1; c < 3000 ∧ 0 ≤ c ∧ c ≤ 1007 ∧ d' = d + 1 ∨ c = 3006 ∧ 1 ≤ d ∧ d' = d ∨ 3000 ≤ c ∧ ¬ c = 3006 ∧ 2 ≤ d ∧ d' = d - 1 := by
  intro c d d'
  have hq := h i.toNat (by omega)
  rw [Int.toNat_of_nonneg h0, ← rkS_1 f W o i.toNat] at hq
  have e : d' = (rkT W c (rkS f W o i.toNat)).1 := by show (rkS f W o (i + 1).toNat).1 = _; rw [rkS_s f W o i h0]
  unfold rkT at e
  rcases hq with hq | hq | hq
  · left; rw [if_pos hq.1] at e; exact ⟨hq.1, hq.2.1, hq.2.2, e⟩
  · right; left
    rw [if_neg (by omega), if_pos hq.1] at e; exact ⟨hq.1, hq.2, e⟩
  · right; right
    rw [if_neg (by omega), if_neg hq.2.1] at e; exact ⟨hq.1, hq.2.1, hq.2.2, e⟩
def stOK (M : mm_M) (p : Int × (Nat → Int)) : Prop := ∀ j : Nat, (j : Int) < p.1 → (M.1 103 j).toInt = p.2 j
def wdOK (M : mm_M) (W : Nat → Int) : Prop := ∀ j : Nat, j < 8 → (M.1 104 j).toInt = W j
theorem wd_get {M : mm_M} {W : Nat → Int} (h : b01 (wdOK M W) = 1) (j : Int) (h0 : 0 ≤ j) (h1 : j < 8) : (M.1 104 j.toNat).toInt = W j.toNat := b01_e h j.toNat (by omega)
theorem wd_keep {M M' : mm_M} {W : Nat → Int} {k : Nat} {v : Int32} (e : M' = wI M 103 k v) (h : b01 (wdOK M W) = 1) : b01 (wdOK M' W) = 1 := b01_i (by
  intro j hj
  rw [wI_cell e (show (104 : Nat) ≠ 103 by decide)]
  exact b01_e h j hj)
theorem st_upd {M M' : mm_M} {n v : Int} {k : Nat} (e : M' = wI M 103 k (sI v)) (hv : -2147483648 ≤ v ∧ v ≤ 2147483647) {g : Nat → Int} (h : ∀ j : Nat, (j : Int) < n → j ≠ k → (M.1 103 j).toInt = g j) : ∀ j : Nat, (j : Int) < n → (M'.1 103 j).toInt = uI g k v j := by
  intro j hj
  unfold uI
  by_cases q : j = k
  · subst q; rw [if_pos rfl, s_wr e hv]
  · rw [if_neg q, e]
    show (u2 M.1 103 k (sI v) 103 j).toInt = _
    rw [u2_b _ _ q]; exact h j hj q
theorem st_push {M M' : mm_M} {f : Nat → Int32} {W : Nat → Int} {o i n v : Int} (e : M' = wI M 103 n.toNat (sI v)) (h : b01 (stOK M (rkS f W o i.toNat)) = 1) (q : (-2147483648 ≤ v ∧ v ≤ 2147483647) ∧ 0 ≤ i ∧ 0 ≤ n ∧ n = (rkS f W o i.toNat).1 ∧ (f (o + i).toNat).toInt < 3000 ∧ v = pvF W (f (o + i).toNat).toInt) : b01 (stOK M' (rkS f W o (i + 1).toNat)) = 1 := b01_i (by
  rw [rkS_s f W o i q.2.1]
  unfold rkT stOK
  rw [if_pos q.2.2.2.2.1]
  rw [← q.2.2.2.2.2, ← q.2.2.2.1]
  exact st_upd e q.1 (fun j hj hne => b01_e h j (by rw [← q.2.2.2.1]; simp only [] at hj; omega)))
theorem st_not {M M' : mm_M} {f : Nat → Int32} {W : Nat → Int} {o i n : Int} (e : M' = wI M 103 (n - 1).toNat (sI (subI 1 (M.1 103 (n - 1).toNat).toInt))) (h : b01 (stOK M (rkS f W o i.toNat)) = 1) (q : 0 ≤ i ∧ 1 ≤ n ∧ n = (rkS f W o i.toNat).1 ∧ (f (o + i).toNat).toInt = 3006) : b01 (stOK M' (rkS f W o (i + 1).toNat)) = 1 := b01_i (by
  have h2 := b01_e h
  rw [rkS_s f W o i q.1]
  unfold rkT stOK
  rw [if_neg (by omega), if_pos q.2.2.2]
  rw [← q.2.2.1]
  have e2 : (rkS f W o i.toNat).2 (n - 1).toNat = (M.1 103 (n - 1).toNat).toInt := (h2 _ (by rw [← q.2.2.1]; omega)).symm
  rw [e2]
  exact st_upd e (sI_r _) (fun j hj hne => h2 j (by rw [← q.2.2.1]; exact hj)))
theorem st_bin {M M' : mm_M} {f : Nat → Int32} {W : Nat → Int} {o i n v : Int} (e : M' = wI M 103 (n - 1).toNat (sI v)) (h : b01 (stOK M (rkS f W o i.toNat)) = 1) (q : (-2147483648 ≤ v ∧ v ≤ 2147483647) ∧ 0 ≤ i ∧ 1 ≤ n ∧ n + 1 = (rkS f W o i.toNat).1 ∧ 3000 ≤ (f (o + i).toNat).toInt ∧ ¬ (f (o + i).toNat).toInt = 3006) (q7 : v = btF (f (o + i).toNat).toInt (M.1 103 (n - 1).toNat).toInt (M.1 103 n.toNat).toInt) : b01 (stOK M' (rkS f W o (i + 1).toNat)) = 1 := b01_i (by
  have h2 := b01_e h
  obtain ⟨q1, q2, q3, q4, q5, q6⟩ := q
  rw [rkS_s f W o i q2]
  unfold rkT stOK
  rw [if_neg (by omega), if_neg q6]
  rw [← q4]
  rw [show n + 1 - 1 - 1 = n - 1 by omega, show n + 1 - 1 = n by omega]
  have e1 : (rkS f W o i.toNat).2 n.toNat = (M.1 103 n.toNat).toInt := (h2 _ (by rw [← q4]; omega)).symm
  have e2 : (rkS f W o i.toNat).2 (n - 1).toNat = (M.1 103 (n - 1).toNat).toInt := (h2 _ (by rw [← q4]; omega)).symm
  rw [e1, e2, ← q7]
  exact st_upd e q1 (fun j hj hne => h2 j (by rw [← q4]; simp only [] at hj; omega)))
theorem st_get {M : mm_M} {p : Int × (Nat → Int)} (h : b01 (stOK M p) = 1) (h1 : 1 ≤ p.1) : (M.1 103 0).toInt = p.2 0 := b01_e h 0 (by omega)
theorem st_0 (M : mm_M) (f : Nat → Int32) (W : Nat → Int) (o : Int) : b01 (stOK M (rkS f W o (0 : Int).toNat)) = 1 ∧ (rkS f W o (0 : Int).toNat).1 = 0 := ⟨b01_i (fun j hj => absurd hj (by show ¬ (j : Int) < 0; omega)), rfl⟩
def rkF (f : Nat → Int32) (l : Nat) (b k s : Int) : Int := (rkS f (wdF f b k s) (281 + (f (4 + l)).toInt) (f (6 + l)).toInt.toNat).2 0
def wtF (f : Nat → Int32) (b k s : Int) : Int := if (f 2).toInt = 0 then subI (f (8 + b).toNat).toInt (f (33 + k).toNat).toInt else rkF f 0 b k s
theorem wtF_s (f : Nat → Int32) (b k s : Int) : (f 2).toInt = 0 ∧ wtF f b k s = subI (f (8 + b).toNat).toInt (f (33 + k).toNat).toInt ∨ ¬ (f 2).toInt = 0 ∧ wtF f b k s = rkF f 0 b k s := by
  unfold wtF; split <;> simp [*]
def mbF (f : Nat → Int32) (b k s : Int) : Int := if iiF (f 28).toInt k = 0 ∧ (f (33 + k).toNat).toInt ≤ (f (8 + b).toNat).toInt ∧ ((f 3).toInt = 0 ∨ rkF f 1 b k s = 1) then 1 else 0
theorem mbF_s (f : Nat → Int32) (b k s : Int) : (iiF (f 28).toInt k = 0 ∧ (f (33 + k).toNat).toInt ≤ (f (8 + b).toNat).toInt ∧ ((f 3).toInt = 0 ∨ rkF f 1 b k s = 1)) ∧ mbF f b k s = 1 ∨ ¬ (iiF (f 28).toInt k = 0 ∧ (f (33 + k).toNat).toInt ≤ (f (8 + b).toNat).toInt ∧ ((f 3).toInt = 0 ∨ rkF f 1 b k s = 1)) ∧ mbF f b k s = 0 := by
  unfold mbF; split
  · left; exact ⟨‹_›, rfl⟩
  · right; exact ⟨‹_›, rfl⟩
def boT (f : Nat → Int32) (b s k : Int) (p : Int × Int) : Int × Int := if shF f s = 1 then p else if p.2 < (if mbF f b k s = 0 then 0 else wtF f b k s) then (k, if mbF f b k s = 0 then 0 else wtF f b k s) else p
def boS (f : Nat → Int32) (b s : Int) : Nat → Int × Int
  | 0 => (-1, 0)
  | k + 1 => boT f b s (k : Int) (boS f b s k)
def boF (f : Nat → Int32) (b s : Int) : Int := (boS f b s (f 26).toInt.toNat).1
theorem bo_step (f : Nat → Int32) (b s k : Int) (h : 0 ≤ k) : let p := boS f b s k.toNat; let p' := boS f b s (k + 1).toNat; shF f s = 1 ∨ mbF f b k s = 0 ∧ p.2 < 0 ∧ p'.1 = k ∧ p'.2 = 0 ∨ mbF f b k s = 0 ∧ 0 ≤ p.2 ∧ p'.1 = p.1 ∧ p'.2 = p.2 ∨ ¬ mbF f b k s = 0 ∧ p.2 < wtF f b k s ∧ p'.1 = k ∧ p'.2 = wtF f b k s ∨ ¬ mbF f b k s = 0 ∧ wtF f b k s ≤ p.2 ∧ p'.1 = p.1 ∧ p'.2 = p.2 := by
  intro p p'
  have e : p' = boT f b s k p := by
    show boS f b s (k + 1).toNat = _
    have e1 : (k + 1).toNat = k.toNat + 1 := by omega
    rw [e1, boS, Int.toNat_of_nonneg h]
  by_cases h1 : shF f s = 1
  · exact Or.inl h1
  · right
    unfold boT at e
    rw [if_neg h1] at e
    by_cases h2 : mbF f b k s = 0
    · rw [if_pos h2] at e
      by_cases h3 : p.2 < 0
      · rw [if_pos h3] at e; left; rw [e]; exact ⟨h2, h3, rfl, rfl⟩
      · rw [if_neg h3] at e; right; left; rw [e]; exact ⟨h2, by omega, rfl, rfl⟩
    · rw [if_neg h2] at e
      by_cases h3 : p.2 < wtF f b k s
      · rw [if_pos h3] at e; right; right; left; rw [e]; exact ⟨h2, h3, rfl, rfl⟩
      · rw [if_neg h3] at e; right; right; right; rw [e]; exact ⟨h2, by omega, rfl, rfl⟩
theorem bo_shut (f : Nat → Int32) (b s : Int) (h : shF f s = 1) : ∀ n, boS f b s n = (-1, 0)
  | 0 => rfl
  | n + 1 => by rw [boS, boT, if_pos h, bo_shut f b s h n]
theorem bo_end (f : Nat → Int32) (b s k : Int) (h : 0 ≤ k ∧ (k = (f 26).toInt ∨ shF f s = 1)) : (boS f b s k.toNat).1 = boF f b s := by
  rcases h.2 with h | h
  · rw [h]; rfl
  · unfold boF; rw [bo_shut f b s h, bo_shut f b s h]
theorem bo_0 (f : Nat → Int32) (b s : Int) : (boS f b s (0 : Int).toNat).1 = -1 ∧ (boS f b s (0 : Int).toNat).2 = 0 := ⟨rfl, rfl⟩
def bnF (f : Nat → Int32) (b : Int) : Int := boF f b (f 27).toInt
theorem wd_of {M0 M1 M2 M3 M4 M5 M6 M7 M8 : mm_M} {v0 v1 v2 v3 v4 v5 v6 v7 : Int} {W : Nat → Int} (e0 : M1 = wI M0 104 0 (sI v0)) (e1 : M2 = wI M1 104 1 (sI v1)) (e2 : M3 = wI M2 104 2 (sI v2)) (e3 : M4 = wI M3 104 3 (sI v3)) (e4 : M5 = wI M4 104 4 (sI v4)) (e5 : M6 = wI M5 104 5 (sI v5)) (e6 : M7 = wI M6 104 6 (sI v6)) (e7 : M8 = wI M7 104 7 (sI v7)) (q0 : v0 = W 0) (q1 : v1 = W 1) (q2 : v2 = W 2) (q3 : v3 = W 3) (q4 : v4 = W 4) (q5 : v5 = W 5) (q6 : v6 = W 6) (q7 : v7 = W 7) (r : (-2147483648 ≤ v0 ∧ v0 ≤ 2147483647) ∧ (-2147483648 ≤ v1 ∧ v1 ≤ 2147483647) ∧ (-2147483648 ≤ v2 ∧ v2 ≤ 2147483647) ∧ (-2147483648 ≤ v3 ∧ v3 ≤ 2147483647) ∧ (-2147483648 ≤ v4 ∧ v4 ≤ 2147483647) ∧ (-2147483648 ≤ v5 ∧ v5 ≤ 2147483647) ∧ (-2147483648 ≤ v6 ∧ v6 ≤ 2147483647) ∧ (-2147483648 ≤ v7 ∧ v7 ≤ 2147483647)) : b01 (wdOK M8 W) = 1 := b01_i (by
  obtain ⟨r0, r1, r2, r3, r4, r5, r6, r7⟩ := r
  intro j hj
  have st : ∀ {M M' : mm_M} {k : Nat} {v : Int32}, M' = wI M 104 k v → j ≠ k → (M'.1 104 j).toInt = (M.1 104 j).toInt := by
    intro M M' k v e hne
    rw [e]; show (u2 M.1 104 k v 104 j).toInt = _; rw [u2_b _ _ hne]
  rcases (show j = 0 ∨ j = 1 ∨ j = 2 ∨ j = 3 ∨ j = 4 ∨ j = 5 ∨ j = 6 ∨ j = 7 by omega) with rfl | rfl | rfl | rfl | rfl | rfl | rfl | rfl
  · rw [st e7 (by decide), st e6 (by decide), st e5 (by decide), st e4 (by decide), st e3 (by decide), st e2 (by decide), st e1 (by decide), s_wr e0 r0, q0]
  · rw [st e7 (by decide), st e6 (by decide), st e5 (by decide), st e4 (by decide), st e3 (by decide), st e2 (by decide), s_wr e1 r1, q1]
  · rw [st e7 (by decide), st e6 (by decide), st e5 (by decide), st e4 (by decide), st e3 (by decide), s_wr e2 r2, q2]
  · rw [st e7 (by decide), st e6 (by decide), st e5 (by decide), st e4 (by decide), s_wr e3 r3, q3]
  · rw [st e7 (by decide), st e6 (by decide), st e5 (by decide), s_wr e4 r4, q4]
  · rw [st e7 (by decide), st e6 (by decide), s_wr e5 r5, q5]
  · rw [st e7 (by decide), s_wr e6 r6, q6]
  · rw [s_wr e7 r7, q7])
/-- all[] is as it was but for one place -/
def AE (p : Nat) (M N : mm_M) : Prop := ∀ k, k ≠ p → N.1 99 k = M.1 99 k
theorem AE_w {M M' : mm_M} {p : Nat} {v : Int32} (e : M' = wI M 99 p v) : b01 (AE p M M') = 1 := b01_i (by
  intro k hk; rw [e]; exact u2_b (i := 99) (a := 99) M.1 v hk)
def psF (f : Nat → Int32) : Nat → Int
  | 0 => 0
  | n + 1 => psF f n + (f (20 + (n : Int)).toNat).toInt
theorem psF_s (f : Nat → Int32) (k : Int) (h : 0 ≤ k) : psF f (k + 1).toNat = psF f k.toNat + (f (20 + k).toNat).toInt := by
  have e : (k + 1).toNat = k.toNat + 1 := by omega
  rw [e, psF, Int.toNat_of_nonneg h]
theorem psF_c {f g : Nat → Int32} : ∀ n : Nat, n ≤ 6 → (∀ k, 20 ≤ k → k ≤ 25 → f k = g k) → psF f n = psF g n
  | 0, _, _ => rfl
  | n + 1, hn, h => by
    rw [psF, psF, psF_c n (by omega) h, h (20 + (n : Int)).toNat (by omega) (by omega)]
theorem AE_ps {M N : mm_M} (h : b01 (AE 32 M N) = 1) (hb : 0 ≤ (M.1 99 1).toInt ∧ (M.1 99 1).toInt ≤ 6) : psF (N.1 99) (N.1 99 1).toInt.toNat = psF (M.1 99) (M.1 99 1).toInt.toNat ∧ (N.1 99 1).toInt = (M.1 99 1).toInt := by
  have h2 := b01_e h
  rw [h2 1 (by decide)]
  exact ⟨psF_c _ (by omega) (fun k h3 h4 => h2 k (by omega)), rfl⟩
theorem psF_lt {f : Nat → Int32} {l b n : Int} (h : l + psF f b.toNat < psF f n.toNat) (h0 : 0 ≤ l) (h1 : b ≤ n) : b < n := by
  rcases (show b < n ∨ b = n by omega) with q | q
  · exact q
  · subst q; omega
/-- the tray's numbers are sights: buyers of the shop, kinds or none -/
def snP (M : mm_M) (t n : Int) : Prop := ∀ i : Int, 0 ≤ i → i < n → 0 ≤ (M.2.1 117 (40 * t + i).toNat).toInt ∧ (M.2.1 117 (40 * t + i).toNat).toInt ≤ 59
theorem sn_0 (M : mm_M) (t : Int) : b01 (snP M t 0) = 1 := b01_i (fun i h0 h1 => absurd h1 (by omega))
theorem sn_s {M : mm_M} {t n : Int} (h : b01 (snP M t n) = 1) (h1 : 0 ≤ (M.2.1 117 (40 * t + n).toNat).toInt ∧ (M.2.1 117 (40 * t + n).toNat).toInt ≤ 59) : b01 (snP M t (n + 1)) = 1 := b01_i (by
  intro i h0 hi
  rcases (show i < n ∨ i = n by omega) with q | q
  · exact b01_e h i h0 q
  · subst q; exact h1)
theorem sn_g {M : mm_M} {t n : Int} (h : b01 (snP M t n) = 1) (i : Int) (h0 : 0 ≤ i ∧ i < n) : 0 ≤ (M.2.1 117 (40 * t + i).toNat).toInt ∧ (M.2.1 117 (40 * t + i).toNat).toInt ≤ 59 := b01_e h i h0.1 h0.2
theorem bk_w (n k : Nat) (h : k < 23) (hn : n < 10) : bz (50 + 23 * n + k) = bk k := by
  unfold bz
  rw [if_neg (by omega), if_neg (by omega), if_neg (by omega), if_neg (by omega), if_neg (by omega), if_pos (by omega)]
  congr 1; omega
theorem bk_k (k : Nat) (h : k < 23) : bz (26 + k) = bk k := by
  unfold bz
  rw [if_neg (by omega), if_neg (by omega), if_neg (by omega), if_pos (by omega)]
  congr 1; omega
theorem b45 (k : Nat) : s_b 45 k = bz (k % 1181) := rfl
theorem b51 (k : Nat) : s_b 51 k = bk k := rfl
theorem q_k (x : Int) (h : 0 ≤ x ∧ x < 23) : s_b 45 (26 + x).toNat = s_b 51 x.toNat := by
  rw [b45, b51, Nat.mod_eq_of_lt (by omega), show (26 + x).toNat = 26 + x.toNat by omega, bk_k _ (by omega)]
theorem q_w (n x : Int) (h : 0 ≤ x ∧ x < 23 ∧ 0 ≤ n ∧ n < 10) : s_b 45 (50 + 23 * n + x).toNat = s_b 51 x.toNat := by
  rw [b45, b51, Nat.mod_eq_of_lt (by omega), show (50 + 23 * n + x).toNat = 50 + 23 * n.toNat + x.toNat by omega, bk_w _ _ (by omega) (by omega)]
theorem q_s (x : Int) (h : 0 ≤ x ∧ x < 207) : s_b 45 (50 + x).toNat = s_b 45 (73 + x).toNat := by
  rw [b45, b45, Nat.mod_eq_of_lt (by omega), Nat.mod_eq_of_lt (by omega), show (50 + x).toNat = 50 + 23 * (x.toNat / 23) + x.toNat % 23 by omega, show (73 + x).toNat = 50 + 23 * (x.toNat / 23 + 1) + x.toNat % 23 by omega, bk_w _ _ (by omega) (by omega), bk_w _ _ (by omega) (by omega)]
theorem p54 (b w : Int) (k : Nat) (hb : 1 ≤ b ∧ b ≤ 54) (hw : 1 ≤ w ∧ w ≤ 54 ^ k) (hk : k < 10) : 1 ≤ w * b ∧ w * b ≤ 54 ^ (k + 1) ∧ (54 : Int) ^ (k + 1) ≤ 210832519264920576 := by
  refine ⟨?_, ?_, ?_⟩
  · have := Int.mul_le_mul hw.1 hb.1 (by decide) (by omega)
    omega
  · rw [Int.pow_succ]
    exact Int.mul_le_mul hw.2 hb.2 (by omega) (by have := hw.1; omega)
  · have h1 : 54 ^ (k + 1) ≤ 54 ^ 10 := Nat.pow_le_pow_right (by decide) (by omega)
    have h2 : (54 : Int) ^ (k + 1) = ((54 ^ (k + 1) : Nat) : Int) := by simp
    have h3 : 54 ^ 10 = 210832519264920576 := by decide
    omega
def pwF (k : Int) : Int := 54 ^ k.toNat
theorem pwF_0 : pwF 0 = 1 := rfl
theorem pwF_s (b w k : Int) (h : (1 ≤ b ∧ b ≤ 54) ∧ (1 ≤ w ∧ w ≤ pwF k) ∧ 0 ≤ k ∧ k < 10) : 1 ≤ w * b ∧ w * b ≤ pwF (k + 1) ∧ pwF (k + 1) ≤ 210832519264920576 := by
  have e : (k + 1).toNat = k.toNat + 1 := by omega
  unfold pwF at *
  rw [e]
  exact p54 b w k.toNat h.1 h.2.1 (by omega)
/-! PAIRS: what was sold is of the kinds that are there, in all[] (now, in each thing kept, in each image) and in was[] -/
def pkF (f : Nat → Int32) (o : Nat) : Prop := (f (o + 1)).toInt < pw2 (f o).toInt
def ppQ (c o : Nat) : Bool := (Nat.beq c 99 && (Nat.beq (o % 1181) 26 || (Nat.ble 50 (o % 1181) && Nat.ble (o % 1181) 279 && Nat.beq ((o % 1181 - 50) % 23) 0))) || (Nat.beq c 105 && Nat.beq o 0)
def PIx (M : mm_M) (c d : Nat) : Prop := ∀ c' o, ppQ c' o = true → ¬ (c' = c ∧ o = d) → pkF (M.1 c') o
def PI (M : mm_M) : Prop := ∀ c o, ppQ c o = true → pkF (M.1 c) o
theorem ppQ_c {c o : Nat} (h : ppQ c o = true) : c = 99 ∨ c = 105 := by
  unfold ppQ at h
  rw [Bool.or_eq_true] at h
  rcases h with h | h
  · rw [Bool.and_eq_true] at h; exact Or.inl (Nat.eq_of_beq_eq_true h.1)
  · rw [Bool.and_eq_true] at h; exact Or.inr (Nat.eq_of_beq_eq_true h.1)
theorem wI_ne {M M' : mm_M} {i k b : Nat} {v : Int32} (e : M' = wI M i k v) (h : b ≠ k) : M'.1 i b = M.1 i b := by
  rw [e]; exact u2_b (i := i) (k := k) (a := i) (b := b) M.1 v h
theorem pi_o {M M' : mm_M} {i k : Nat} {v : Int32} (e : M' = wI M i k v) (h1 : 99 ≠ i) (h2 : 105 ≠ i) (h : b01 (PI M) = 1) : b01 (PI M') = 1 := b01_i (by
  intro c o hc
  rcases ppQ_c hc with rfl | rfl
  · rw [wI_cell e h1]; exact b01_e h _ o hc
  · rw [wI_cell e h2]; exact b01_e h _ o hc)
theorem pi_J {M M' : mm_M} {i k : Nat} {v : Int64} (e : M' = wJ M i k v) (h : b01 (PI M) = 1) : b01 (PI M') = 1 := b01_i (by
  intro c o hc
  rw [wJ_cell e]; exact b01_e h _ o hc)
/-- a place that is in no pair -/
def npQ (c k : Nat) : Bool := !(ppQ c k) && !(ppQ c (k - 1) && Nat.ble 1 k)
theorem pk_w {M M' : mm_M} {c k o : Nat} {v : Int32} (e : M' = wI M c k v) {c' : Nat} (h1 : ¬ (c' = c ∧ o = k)) (h2 : ¬ (c' = c ∧ o + 1 = k)) (h : pkF (M.1 c') o) : pkF (M'.1 c') o := by
  unfold pkF at *
  by_cases q : c' = c
  · subst q
    have e1 : M'.1 c' o = M.1 c' o := by rw [e]; exact u2_b M.1 v (fun z => h1 ⟨rfl, z⟩)
    have e2 : M'.1 c' (o + 1) = M.1 c' (o + 1) := by rw [e]; exact u2_b M.1 v (fun z => h2 ⟨rfl, z⟩)
    rw [e1, e2]; exact h
  · rw [wI_cell e q]; exact h
theorem pi_n {M M' : mm_M} {c k : Nat} {v : Int32} (e : M' = wI M c k v) (hn : npQ c k = true) (h : b01 (PI M) = 1) : b01 (PI M') = 1 := b01_i (by
  intro c' o hc
  refine pk_w e ?_ ?_ (b01_e h c' o hc)
  · rintro ⟨rfl, rfl⟩
    unfold npQ at hn; rw [hc] at hn; simp at hn
  · rintro ⟨rfl, rfl⟩
    unfold npQ at hn; rw [Nat.add_sub_cancel, hc, Nat.ble_eq_true_of_le (show 1 ≤ o + 1 by omega)] at hn; simp at hn)
theorem pw2_p (a : Int) : 1 ≤ pw2 a := by
  unfold pw2
  have : (1 : Int) ≤ ((2 ^ a.toNat : Nat) : Int) := by exact_mod_cast Nat.one_le_two_pow
  simpa using this
theorem pw2_m {a b : Int} (h : a ≤ b) : pw2 a ≤ pw2 b := by
  unfold pw2
  have : 2 ^ a.toNat ≤ 2 ^ b.toNat := Nat.pow_le_pow_right (by decide) (by omega)
  have h2 : ((2 ^ a.toNat : Nat) : Int) ≤ ((2 ^ b.toNat : Nat) : Int) := by exact_mod_cast this
  simpa using h2
theorem pi_k {M M' : mm_M} {a : Int} (e : M' = wI M 99 26 (sI a)) (h : b01 (PI M) = 1) (ha : (-2147483648 ≤ a ∧ a ≤ 2147483647) ∧ (M.1 99 26).toInt ≤ a) : b01 (PI M') = 1 := b01_i (by
  intro c' o hc
  by_cases q : c' = 99 ∧ o = 26
  · obtain ⟨rfl, rfl⟩ := q
    have h1 := b01_e h 99 26 hc
    unfold pkF at *
    have e1 : (M'.1 99 26).toInt = a := s_wr e ha.1
    have e2 : M'.1 99 (26 + 1) = M.1 99 (26 + 1) := wI_ne e (by decide)
    rw [e1, e2]
    have := pw2_m ha.2
    omega
  · refine pk_w e q ?_ (b01_e h c' o hc)
    rintro ⟨rfl, z⟩
    have : o = 25 := by omega
    subst this; exact absurd hc (by decide))
theorem pi_s {M M' : mm_M} {a : Int} (e : M' = wI M 99 27 (sI a)) (h : b01 (PI M) = 1) (ha : (-2147483648 ≤ a ∧ a ≤ 2147483647) ∧ a < pw2 (M.1 99 26).toInt) : b01 (PI M') = 1 := b01_i (by
  intro c' o hc
  by_cases q : c' = 99 ∧ o + 1 = 27
  · obtain ⟨rfl, z⟩ := q
    have : o = 26 := by omega
    subst this
    unfold pkF
    have e1 : (M'.1 99 (26 + 1)).toInt = a := s_wr e ha.1
    have e2 : M'.1 99 26 = M.1 99 26 := wI_ne e (by decide)
    rw [e1, e2]; exact ha.2
  · refine pk_w e ?_ q (b01_e h c' o hc)
    rintro ⟨rfl, rfl⟩
    exact absurd hc (by decide))
/-- a pair half copied -/
def PB (M : mm_M) (c d c2 s : Nat) : Prop := PIx M c d ∧ M.1 c d = M.1 c2 s
theorem pb_0 {M M' : mm_M} {c d c2 s : Nat} {v : Int32} (e : M' = wI M c d v) (hv : v = M.1 c2 s) (hne : ¬ (c2 = c ∧ s = d)) (hd : ppQ c d = true) (h : b01 (PI M) = 1) : b01 (PB M' c d c2 s) = 1 := b01_i (by
  refine ⟨fun c' o hc hq => ?_, ?_⟩
  · refine pk_w e hq ?_ (b01_e h c' o hc)
    rintro ⟨rfl, rfl⟩
    have h99 := ppQ_c hc
    unfold ppQ at hc hd
    rcases h99 with rfl | rfl
    · simp at hc hd; omega
    · simp at hc hd
  · have e1 : M'.1 c d = v := by rw [e]; exact u2_s _ _ _ _
    have e2 : M'.1 c2 s = M.1 c2 s := by
      rw [e]
      by_cases q : c2 = c
      · subst q; exact u2_b M.1 v (fun z => hne ⟨rfl, z⟩)
      · exact u2_a M.1 v q
    rw [e1, e2, hv])
theorem pb_1 {M M' : mm_M} {c d c2 s : Nat} {v : Int32} (e : M' = wI M c (d + 1) v) (hv : v = M.1 c2 (s + 1)) (hs : ppQ c2 s = true) (hne : ¬ (c2 = c ∧ s = d)) (hd : ppQ c d = true) (h : b01 (PB M c d c2 s) = 1) : b01 (PI M') = 1 := b01_i (by
  obtain ⟨h1, h2⟩ := b01_e h
  intro c' o hc
  by_cases q : c' = c ∧ o = d
  · obtain ⟨rfl, rfl⟩ := q
    have h3 := h1 c2 s hs hne
    unfold pkF at *
    have e1 : M'.1 c' (o + 1) = v := by rw [e]; exact u2_s _ _ _ _
    have e2 : M'.1 c' o = M.1 c' o := by rw [e]; exact u2_b M.1 v (by omega)
    rw [e1, e2, hv, h2]; exact h3
  · refine pk_w e ?_ ?_ (h1 c' o hc q)
    · rintro ⟨rfl, rfl⟩
      have h99 := ppQ_c hc
      unfold ppQ at hc hd
      rcases h99 with rfl | rfl
      · simp at hc hd; omega
      · simp at hc hd
    · rintro ⟨rfl, z⟩
      exact q ⟨rfl, by omega⟩)
theorem bo_lt (f : Nat → Int32) (b s : Int) : ∀ n : Nat, (boS f b s n).1 < n
  | 0 => by show (-1 : Int) < 0; decide
  | n + 1 => by
    have ih := bo_lt f b s n
    rw [boS, boT]
    generalize (if mbF f b (↑n) s = 0 then 0 else wtF f b (↑n) s) = w
    by_cases h1 : shF f s = 1
    · rw [if_pos h1]; omega
    · rw [if_neg h1]
      split
      · show (n : Int) < ((n + 1 : Nat) : Int); omega
      · omega
theorem boF_lt (f : Nat → Int32) (b s : Int) (h : 0 ≤ (f 26).toInt) : boF f b s < (f 26).toInt := by
  have := bo_lt f b s (f 26).toInt.toNat
  unfold boF
  omega
theorem or_lt {s k K : Int} (h : 0 ≤ s ∧ s < pw2 K ∧ 0 ≤ k ∧ k < K ∧ K ≤ 8) : 0 ≤ orI s (pw2 k) ∧ orI s (pw2 k) < pw2 K := by
  obtain ⟨h1, h2, h3, h4, h5⟩ := h
  have hK : pw2 K ≤ 256 := pw2_m (b := 8) h5
  have hk : pw2 k < pw2 K := by
    unfold pw2
    have : 2 ^ k.toNat < 2 ^ K.toNat := Nat.pow_lt_pow_right (by decide) (by omega)
    have h2 : ((2 ^ k.toNat : Nat) : Int) < ((2 ^ K.toNat : Nat) : Int) := by exact_mod_cast this
    simpa using h2
  have hp := pw2_p k
  exact sb_or (x := sI s) (y := sI (pw2 k)) K.toNat (by omega) (by rw [sI_t (by omega)]; exact ⟨h1, h2⟩) (by rw [sI_t (by omega)]; exact ⟨by omega, hk⟩)
def seQ (c k : Nat) : Bool := Nat.ble 1 k && ppQ c (k - 1)
def alQ (c pd c2 ps : Nat) : Bool := !(ppQ c pd) || (ppQ c2 ps && !(decide (c2 = c ∧ ps = pd)))
def alB (c pd c2 ps : Nat) : Bool := alQ c pd c2 ps && (!(seQ c pd) || (Nat.ble 1 ps && alQ c (pd - 1) c2 (ps - 1) && !(ppQ c pd)))
/-- in the midst of a copy: about to write the place pd out of ps -/
def Cp (M : mm_M) (c pd c2 ps : Nat) : Prop := (seQ c pd = true → PB M c (pd - 1) c2 (ps - 1)) ∧ (seQ c pd = false → PI M)
theorem cp_0 {M : mm_M} {c pd c2 ps : Nat} (h : b01 (PI M) = 1) (hs : seQ c pd = false) : b01 (Cp M c pd c2 ps) = 1 := b01_i ⟨fun q => (by rw [hs] at q; cases q), fun _ => b01_e h⟩
theorem cp_e {M : mm_M} {c pd c2 ps : Nat} (h : b01 (Cp M c pd c2 ps) = 1) (hs : seQ c pd = false) : b01 (PI M) = 1 := b01_i ((b01_e h).2 hs)
theorem alQ_e {c pd c2 ps : Nat} (h : alQ c pd c2 ps = true) (hp : ppQ c pd = true) : ppQ c2 ps = true ∧ ¬ (c2 = c ∧ ps = pd) := by
  unfold alQ at h
  rw [hp] at h
  simp only [Bool.not_true, Bool.false_or, Bool.and_eq_true, Bool.not_eq_true', decide_eq_false_iff_not] at h
  exact h
theorem cp_step {M M' : mm_M} {c pd c2 ps pd' ps' : Nat} {v : Int32} (e : M' = wI M c pd v) (hv : v = M.1 c2 ps) (al : alB c pd c2 ps = true) (q : pd' = pd + 1) (q2 : ps' = ps + 1) (h : b01 (Cp M c pd c2 ps) = 1) : b01 (Cp M' c pd' c2 ps') = 1 := b01_i (by
  subst q; subst q2
  obtain ⟨h1, h2⟩ := b01_e h
  unfold alB at al
  rw [Bool.and_eq_true] at al
  obtain ⟨al1, al2⟩ := al
  have hs1 : seQ c (pd + 1) = ppQ c pd := by unfold seQ; simp [Nat.ble_eq]
  unfold Cp
  rw [hs1, Nat.add_sub_cancel, Nat.add_sub_cancel]
  by_cases hse : seQ c pd = true
  · have h3 := h1 hse
    rw [hse] at al2
    simp only [Bool.not_true, Bool.false_or, Bool.and_eq_true, Bool.not_eq_true'] at al2
    obtain ⟨⟨hps, al3⟩, hpd⟩ := al2
    have hps := Nat.le_of_ble_eq_true hps
    unfold seQ at hse
    rw [Bool.and_eq_true] at hse
    have hp1 := Nat.le_of_ble_eq_true hse.1
    obtain ⟨a1, a2⟩ := alQ_e al3 hse.2
    refine ⟨fun z => (by rw [hpd] at z; cases z), fun _ => ?_⟩
    refine b01_e (pb_1 (d := pd - 1) (s := ps - 1) (v := v) ?_ ?_ a1 a2 hse.2 (b01_i h3))
    · rw [Nat.sub_add_cancel hp1]; exact e
    · rw [Nat.sub_add_cancel hps]; exact hv
  · have hse2 : seQ c pd = false := by simpa using hse
    have h3 := h2 hse2
    by_cases hp : ppQ c pd = true
    · obtain ⟨a1, a2⟩ := alQ_e al1 hp
      exact ⟨fun _ => b01_e (pb_0 e hv a2 hp (b01_i h3)), fun z => (by rw [hp] at z; cases z)⟩
    · have hp2 : ppQ c pd = false := by simpa using hp
      refine ⟨fun z => absurd z hp, fun _ => ?_⟩
      refine b01_e (pi_n e ?_ (b01_i h3))
      unfold npQ
      unfold seQ at hse2
      rw [hp2, Bool.and_comm (ppQ c (pd - 1)), hse2]; rfl)
theorem al_k : ∀ k, k < 23 → alB 105 k 99 (26 + k) = true := by decide +kernel
theorem al_a : ∀ k, k < 23 → alB 99 (26 + k) 105 k = true := by decide +kernel
theorem al_n : ∀ n, n < 10 → ∀ k, k < 23 → alB 99 (50 + 23 * n + k) 105 k = true := by decide +kernel
theorem al_u : ∀ n, n < 10 → ∀ k, k < 23 → alB 99 (26 + k) 99 (50 + 23 * n + k) = true := by decide +kernel
theorem al_s : ∀ k, k < 207 → alB 99 (50 + k) 99 (73 + k) = true := by decide +kernel
theorem se_n : ∀ n, n < 10 → seQ 99 (50 + 23 * n) = false ∧ seQ 99 (50 + 23 * n + 23) = false := by decide +kernel
theorem se_k : seQ 105 0 = false ∧ seQ 105 23 = false ∧ seQ 99 26 = false ∧ seQ 99 49 = false ∧ seQ 99 50 = false ∧ seQ 99 257 = false := by decide +kernel
/-! ENDINGS -/
def eoP (M : mm_M) (s v : Int) : Prop := v = 268435456 ∨ (0 ≤ v ∧ v ≤ 255 - s ∧ (v = 0 ∨ ∃ b k : Int, 0 ≤ b ∧ b < (M.1 99 1).toInt ∧ 0 ≤ k ∧ k ≤ 7 ∧ (M.1 106 (6 * s + b).toNat).toInt = k ∧ iiF s k = 0 ∧ s < orI s (pw2 k) ∧ orI s (pw2 k) ≤ evF (M.1 99) ∧ (M.1 107 (orI s (pw2 k)).toNat).toInt + 1 = v))
def leQ (M : mm_M) (s : Int) : Prop := ∀ t : Int, s < t → 0 ≤ t → t ≤ evF (M.1 99) → eoP M t (M.1 107 t.toNat).toInt
def lbQ (M : mm_M) (f : Nat → Int32) (s b : Int) : Prop := ∀ s' b' : Int, 0 ≤ s' → 0 ≤ b' → b' < (f 1).toInt → (s' < s ∨ s' = s ∧ b' < b) → (M.1 106 (6 * s' + b').toNat).toInt < (f 26).toInt
def lbP (M : mm_M) : Prop := ∀ s' b' : Int, 0 ≤ s' → 0 ≤ b' → b' < (M.1 99 1).toInt → s' ≤ evF (M.1 99) → (M.1 106 (6 * s' + b').toNat).toInt < (M.1 99 26).toInt
theorem lb_0 (M : mm_M) (f : Nat → Int32) : b01 (lbQ M f 0 0) = 1 := b01_i (fun s' b' h0 h1 h2 h3 => absurd h3 (by omega))
theorem lb_s {M M' : mm_M} {f : Nat → Int32} {s b v : Int} (e : M' = wI M 106 (6 * s + b).toNat (sI v)) (h : b01 (lbQ M f s b) = 1) (q : (-2147483648 ≤ v ∧ v ≤ 2147483647) ∧ v < (f 26).toInt ∧ 0 ≤ s ∧ 0 ≤ b ∧ b < 6 ∧ (f 1).toInt ≤ 6) : b01 (lbQ M' f s (b + 1)) = 1 := b01_i (by
  intro s' b' h0 h1 h2 h3
  by_cases hq : s' = s ∧ b' = b
  · obtain ⟨rfl, rfl⟩ := hq
    rw [s_wr e q.1]; exact q.2.1
  · have : (M'.1 106 (6 * s' + b').toNat) = M.1 106 (6 * s' + b').toNat := wI_ne e (by omega)
    rw [this]
    exact b01_e h s' b' h0 h1 h2 (by omega))
theorem lb_n {M : mm_M} {f : Nat → Int32} {s b : Int} (h : b01 (lbQ M f s b) = 1) (q : (f 1).toInt ≤ b) : b01 (lbQ M f (s + 1) 0) = 1 := b01_i (fun s' b' h0 h1 h2 h3 => b01_e h s' b' h0 h1 h2 (by omega))
theorem lb_e {M : mm_M} {f : Nat → Int32} {s : Int} (e : M.1 99 = f) (h : b01 (lbQ M f s 0) = 1) (q : evF f < s) : b01 (lbP M) = 1 := b01_i (by
  intro s' b' h0 h1 h2 h3
  rw [e] at h2 h3 ⊢
  exact b01_e h s' b' h0 h1 h2 (by omega))
theorem lb_c {M N : mm_M} (e1 : N.1 99 = M.1 99) (e2 : N.1 106 = M.1 106) (h : b01 (lbP M) = 1) : b01 (lbP N) = 1 := b01_i (by
  intro s' b'
  rw [e1, e2]
  exact b01_e h s' b')
theorem eo_0 (M : mm_M) (s : Int) (h : s ≤ 255) : b01 (eoP M s 0) = 1 := b01_i (Or.inr ⟨by omega, by omega, Or.inl rfl⟩)
theorem eo_N (M : mm_M) (s : Int) : b01 (eoP M s 268435456) = 1 := b01_i (Or.inl rfl)
theorem eo_b {M : mm_M} {s v : Int} (h : b01 (eoP M s v) = 1) (hs : 0 ≤ s) : 0 ≤ v ∧ v ≤ 268435456 ∧ (v < 268435456 → v ≤ 255 - s) := by
  rcases b01_e h with h | h <;> omega
theorem ii_or : ∀ s k : Nat, s < 256 → k < 8 → iiF (s : Int) (k : Int) = 0 → (s : Int) < orI (s : Int) (pw2 (k : Int)) := by
  have : ∀ s : Nat, s < 256 → ∀ k : Nat, k < 8 → iiF (s : Int) (k : Int) = 0 → (s : Int) < orI (s : Int) (pw2 (k : Int)) := by decide +kernel
  intro s k h1 h2
  exact this s h1 k h2
theorem ii_orI {s k : Int} (h : 0 ≤ s ∧ s ≤ 255 ∧ 0 ≤ k ∧ k ≤ 7) (h2 : iiF s k = 0) : s < orI s (pw2 k) := by
  have := ii_or s.toNat k.toNat (by omega) (by omega)
  rw [Int.toNat_of_nonneg h.1, Int.toNat_of_nonneg h.2.2.1] at this
  exact this h2
theorem eo_up {M : mm_M} {s b k v : Int} (hl : b01 (leQ M s) = 1) (hb : b01 (lbP M) = 1) (hk : (M.1 106 (6 * s + b).toNat).toInt = k) (q : 0 ≤ s ∧ s ≤ evF (M.1 99) ∧ 0 ≤ b ∧ b < (M.1 99 1).toInt ∧ (M.1 99 1).toInt ≤ 6 ∧ 0 ≤ k ∧ k ≤ 7 ∧ iiF s k = 0 ∧ (0 ≤ (M.1 99 26).toInt ∧ (M.1 99 26).toInt ≤ 8) ∧ v ≤ 268435456) (hv : v = (M.1 107 (orI s (pw2 k)).toNat).toInt + 1) : b01 (eoP M s v) = 1 := b01_i (by
  obtain ⟨q1, q2, q3, q4, q5, q6, q7, q8, q9, q10⟩ := q
  have hlt := b01_e hb s b q1 q3 q4 q2
  rw [hk] at hlt
  have hev : evF (M.1 99) = pw2 (M.1 99 26).toInt - 1 := rfl
  have h8 : pw2 (M.1 99 26).toInt ≤ 256 := pw2_m (b := 8) q9.2
  have ho := or_lt (s := s) (k := k) (K := (M.1 99 26).toInt) ⟨q1, by omega, q6, hlt, q9.2⟩
  have hgt := ii_orI (s := s) (k := k) ⟨q1, by omega, q6, q7⟩ q8
  have ht := b01_e hl (orI s (pw2 k)) hgt ho.1 (by omega)
  have hb2 := eo_b (b01_i ht) ho.1
  right
  refine ⟨by omega, by omega, Or.inr ⟨b, k, q3, q4, q6, q7, hk, q8, hgt, by omega, hv.symm⟩⟩)
theorem eo_w {M M' : mm_M} {x : Nat} {u : Int32} {t v : Int} (e : M' = wI M 107 x u) (ht : (x : Int) ≤ t) (h : eoP M t v) : eoP M' t v := by
  rcases h with h | ⟨h1, h2, h3⟩
  · exact Or.inl h
  · refine Or.inr ⟨h1, h2, ?_⟩
    rcases h3 with h3 | ⟨b, k, a1, a2, a3, a4, a5, a6, a7, a8, a9⟩
    · exact Or.inl h3
    · refine Or.inr ⟨b, k, a1, ?_, a3, a4, ?_, a6, a7, ?_, ?_⟩
      · rw [wI_cell e (show (99 : Nat) ≠ 107 by decide)]; exact a2
      · rw [wI_cell e (show (106 : Nat) ≠ 107 by decide)]; exact a5
      · rw [wI_cell e (show (99 : Nat) ≠ 107 by decide)]; exact a8
      · have : M'.1 107 (orI t (pw2 k)).toNat = M.1 107 (orI t (pw2 k)).toNat := wI_ne e (by omega)
        rw [this]; exact a9
theorem le_s {M M' : mm_M} {s v : Int} (e : M' = wI M 107 s.toNat (sI v)) (h : b01 (leQ M s) = 1) (hv : b01 (eoP M s v) = 1) (q : 0 ≤ s ∧ -2147483648 ≤ v ∧ v ≤ 2147483647) : b01 (leQ M' (s + (-1))) = 1 := b01_i (by
  intro t h1 h2 h3
  rw [wI_cell e (show (99 : Nat) ≠ 107 by decide)] at h3
  rcases (show t = s ∨ s < t by omega) with rfl | h4
  · rw [s_wr e ⟨q.2.1, q.2.2⟩]
    exact eo_w e (by omega) (b01_e hv)
  · have : M'.1 107 t.toNat = M.1 107 t.toNat := wI_ne e (by omega)
    rw [this]
    exact eo_w e (by omega) (b01_e h t h4 h2 h3))
theorem le_0 (M : mm_M) (s : Int) (h : evF (M.1 99) ≤ s) : b01 (leQ M s) = 1 := b01_i (fun t h1 h2 h3 => absurd h3 (by omega))
theorem le_g {M : mm_M} (h : b01 (leQ M (-1)) = 1) (s : Int) (q : 0 ≤ s ∧ s ≤ evF (M.1 99)) : b01 (eoP M s (M.1 107 s.toNat).toInt) = 1 := b01_i (b01_e h s (by omega) q.1 q.2)
theorem le_c {M N : mm_M} {s : Int} (e1 : N.1 99 = M.1 99) (e2 : N.1 106 = M.1 106) (e3 : N.1 107 = M.1 107) (h : b01 (leQ M s) = 1) : b01 (leQ N s) = 1 := b01_i (by
  intro t
  unfold eoP
  rw [e1, e2, e3]
  exact b01_e h t)
theorem pi_27 {M : mm_M} (h : b01 (PI M) = 1) : (M.1 99 27).toInt ≤ evF (M.1 99) := by
  have h1 := b01_e h 99 26 (by decide)
  unfold pkF at h1
  have : evF (M.1 99) = pw2 (M.1 99 26).toInt - 1 := rfl
  have h2 : (M.1 99 (26 + 1)).toInt = (M.1 99 27).toInt := rfl
  omega
/-- a visitor from b on that leads nearer -/
def wtP (M : mm_M) (s b0 v : Int) : Prop := ∃ b k : Int, b0 ≤ b ∧ b < (M.1 99 1).toInt ∧ 0 ≤ k ∧ k ≤ 7 ∧ (M.1 106 (6 * s + b).toNat).toInt = k ∧ iiF s k = 0 ∧ s < orI s (pw2 k) ∧ orI s (pw2 k) ≤ evF (M.1 99) ∧ (M.1 107 (orI s (pw2 k)).toNat).toInt + 1 = v
theorem wt_0 {M : mm_M} {s v : Int} (h : b01 (eoP M s (M.1 107 s.toNat).toInt) = 1) (e : (M.1 107 s.toNat).toInt = v) (q : 1 ≤ v ∧ v < 268435456) : b01 (wtP M s 0 v) = 1 := b01_i (by
  rw [e] at h
  rcases b01_e h with h | ⟨h1, h2, h3⟩
  · omega
  · rcases h3 with h3 | ⟨b, k, h4⟩
    · omega
    · exact ⟨b, k, h4⟩)
theorem wt_b {M : mm_M} {s b v : Int} (h : b01 (wtP M s b v) = 1) : b < (M.1 99 1).toInt := by
  obtain ⟨b', k, h1, h2, -⟩ := b01_e h
  omega
theorem wt_s {M : mm_M} {s b v T : Int} (h : b01 (wtP M s b v) = 1) (hT : (M.1 106 (6 * s + b).toNat).toInt = T) (q : T = -1 ∨ ¬ iiF s T = 0 ∨ ¬ (M.1 107 (orI s (pw2 T)).toNat).toInt + 1 = v) : b01 (wtP M s (b + 1) v) = 1 := b01_i (by
  obtain ⟨b', k, h1, h2, h3, h4, h5, h6, h7, h8, h9⟩ := b01_e h
  rcases (show b' = b ∨ b < b' by omega) with rfl | hlt
  · rw [h5] at hT
    subst hT
    rcases q with q | q | q
    · omega
    · exact absurd h6 q
    · exact absurd h9 q
  · exact ⟨b', k, by omega, h2, h3, h4, h5, h6, h7, h8, h9⟩)
theorem ev_or {M : mm_M} {s b k : Int} (hb : b01 (lbP M) = 1) (hk : (M.1 106 (6 * s + b).toNat).toInt = k) (q : 0 ≤ s ∧ s ≤ evF (M.1 99) ∧ 0 ≤ b ∧ b < (M.1 99 1).toInt ∧ 0 ≤ k ∧ (0 ≤ (M.1 99 26).toInt ∧ (M.1 99 26).toInt ≤ 8)) : orI s (pw2 k) ≤ evF (M.1 99) := by
  obtain ⟨q1, q2, q3, q4, q6, q9⟩ := q
  have hlt := b01_e hb s b q1 q3 q4 q2
  rw [hk] at hlt
  have hev : evF (M.1 99) = pw2 (M.1 99 26).toInt - 1 := rfl
  have ho := or_lt (s := s) (k := k) (K := (M.1 99 26).toInt) ⟨q1, by omega, q6, hlt, q9.2⟩
  omega
theorem fdmt {M0 M M1 M2 : mm_M} {a b c d e t t' v w q : Int} (h : b01 (FDM M0 M a b c d e) = 1) (e1 : M1 = wI M 101 t.toNat (sI v)) (e2 : M2 = wI M1 98 5 (sI (t' + 1))) (htt : t' = t) (ht : t = (M.1 98 5).toInt ∧ t = (M0.1 98 5).toInt + q ∧ 0 ≤ q ∧ 0 ≤ t ∧ t ≤ 900) (hv : v = byS w (24 - 8 * (q % 4)) ∧ -2147483648 ≤ v ∧ v ≤ 2147483647) (hw : w = ar5 a b c d e (q / 4)) : b01 (FDM M0 M2 a b c d e) = 1 := by
  subst htt; exact fdms h e1 e2 ht hv hw
end
section
/-! DEEDS on the reference's row -/
def uR (f : Nat → Int32) (k : Nat) (v : Int) : Nat → Int32 := fun j => if j = k then sI v else f j
theorem uR_w {M N : mm_M} {c k : Nat} {v : Int} (e : N = wI M c k (sI v)) : N.1 c = uR (M.1 c) k v := by
  rw [e]
  funext j
  unfold uR
  by_cases h : j = k
  · rw [if_pos h, h]; exact u2_s _ _ _ _
  · rw [if_neg h]; exact u2_b _ _ h
theorem wI_at {M N : mm_M} {c k : Nat} {v : Int32} (e : N = wI M c k v) : N.1 c k = v := by rw [e]; exact u2_s _ _ _ _
theorem uR_n {f : Nat → Int32} {k j : Nat} {v : Int} (h : j ≠ k) : uR f k v j = f j := if_neg h
theorem uR_s {f : Nat → Int32} {k : Nat} {v : Int} : uR f k v k = sI v := if_pos rfl
theorem rw_t {M N : mm_M} {c : Nat} {f g : Nat → Int32} (e : N.1 c = M.1 c) (h : M.1 c = f) (q : f = g) : N.1 c = g := e.trans (h.trans q)
/-- a remainder, a draw: words that omega doesn't look into -/
noncomputable def rmI : Int → Int → Int := Classical.choose (⟨fun a b => a % b, fun _ _ => rfl⟩ : ∃ g : Int → Int → Int, ∀ a b, g a b = a % b)
theorem rmI_e (a b : Int) : rmI a b = a % b := Classical.choose_spec (⟨fun a b => a % b, fun _ _ => rfl⟩ : ∃ g : Int → Int → Int, ∀ a b, g a b = a % b) a b
noncomputable def mlN : Int → Int := Classical.choose (⟨fun a => mulI 1103515245 a, fun _ => rfl⟩ : ∃ g : Int → Int, ∀ a, g a = mulI 1103515245 a)
theorem mlN_e (a : Int) : mlN a = mulI 1103515245 a := Classical.choose_spec (⟨fun a => mulI 1103515245 a, fun _ => rfl⟩ : ∃ g : Int → Int, ∀ a, g a = mulI 1103515245 a) a
noncomputable def dxF (x : Int) : Int := addI (mlN x) 12345
noncomputable def dwF (x : Int) : Int := ushrI (dxF x) 16
section YGD
variable {p : Program} {l : Launch} {e : Env} {R : Room} {s : State} {m : MethodId} {args : Array Value} {below : List Frame} {meth : Method} {c : Code} {cells slots : Nat} {Q : State → Prop} {cc : ByteArray} {nL : Nat} {own : String} {Ts : List Cond} {dC : Nat → ClassId} {dI : Nat → Nat → Nat} {ad : Nat → Nat} {cA : Nat → ClassId} {A : Nat → Prop} {M Kz : mm_M} {pr : Nat → Nat → Bool} {pc : Nat} {lv : List (Nat × Value)} {st : List Value}
theorem e_irem (C : jj_C p R s m args c cells slots cc nL own Ts dC dI ad cA A) {a b : Int} (d : decode cc pc = .ok (.irem, 1)) (h : 0 ≤ a ∧ a ≤ 2147483647 ∧ 0 < b ∧ b ≤ 2147483647) (k : 0 ≤ rmI a b → rmI a b < b → jj p l e R s m args below meth c cells slots Q nL dC dI ad cA A M (pc + 1) lv (.int (sI (rmI a b)) :: st)) : jj p l e R s m args below meth c cells slots Q nL dC dI ad cA A M pc lv (.int (sI b) :: .int (sI a) :: st) := by
  rw [rmI_e] at k
  exact z_irem C _ (sI_rem ⟨h.1, h.2.1⟩ h.2.2) (sI_ne (by omega) (by omega)) d (k (Int.emod_nonneg a (by omega)) (Int.emod_lt_of_pos a h.2.2.1))
theorem y_imulN (C : jj_C p R s m args c cells slots cc nL own Ts dC dI ad cA A) {b : Int} (d : decode cc pc = .ok (.imul, 1)) (k : ∀ r : Int, -2147483648 ≤ r → r ≤ 2147483647 → r = mlN b → jj p l e R s m args below meth c cells slots Q nL dC dI ad cA A M (pc + 1) lv (.int (sI r) :: st)) : jj p l e R s m args below meth c cells slots Q nL dC dI ad cA A M pc lv (.int (sI b) :: .int (sI 1103515245) :: st) := z_imul C (sI (sI 1103515245 * sI b).toInt) (sI_o _).symm d (k _ (sI_r _).1 (sI_r _).2 (mlN_e b).symm)
end YGD
section GD
variable (f : Nat → Int32)
def wvF (b : Int) : Int := if b < 0 ∨ (f 1).toInt ≤ b then 1 else if shF f (f 27).toInt = 1 then 2 else if bnF f b = -1 then 3 else 0
def wkF (k : Int) : Int := if k < 0 ∨ (f 26).toInt ≤ k then 1 else if shF f (f 27).toInt = 1 then 2 else 0
def wpF (k n : Int) : Int := if k < 0 ∨ (f 26).toInt ≤ k ∨ n < 1 ∨ 99 < n then 1 else if shF f (f 27).toInt = 1 then 2 else 0
def waF (n g : Int) : Int := if n < 1 ∨ 99 < n ∨ g < 0 ∨ 9 < g then 1 else if shF f (f 27).toInt = 1 then 2 else if (f 26).toInt = 8 then 3 else 0
theorem wvF_s (b : Int) : ((b < 0 ∨ (f 1).toInt ≤ b) ∧ wvF f b = 1) ∨ ((0 ≤ b ∧ b < (f 1).toInt) ∧ ((shF f (f 27).toInt = 1 ∧ wvF f b = 2) ∨ (¬ shF f (f 27).toInt = 1 ∧ bnF f b = -1 ∧ wvF f b = 3) ∨ (¬ shF f (f 27).toInt = 1 ∧ ¬ bnF f b = -1 ∧ wvF f b = 0))) := by
  unfold wvF; repeat' split
  all_goals omega
theorem wkF_s (k : Int) : ((k < 0 ∨ (f 26).toInt ≤ k) ∧ wkF f k = 1) ∨ ((0 ≤ k ∧ k < (f 26).toInt) ∧ ((shF f (f 27).toInt = 1 ∧ wkF f k = 2) ∨ (¬ shF f (f 27).toInt = 1 ∧ wkF f k = 0))) := by
  unfold wkF; repeat' split
  all_goals omega
theorem wpF_s (k n : Int) : ((k < 0 ∨ (f 26).toInt ≤ k ∨ n < 1 ∨ 99 < n) ∧ wpF f k n = 1) ∨ ((0 ≤ k ∧ k < (f 26).toInt ∧ 1 ≤ n ∧ n ≤ 99) ∧ ((shF f (f 27).toInt = 1 ∧ wpF f k n = 2) ∨ (¬ shF f (f 27).toInt = 1 ∧ wpF f k n = 0))) := by
  unfold wpF; repeat' split
  all_goals omega
theorem waF_s (n g : Int) : ((n < 1 ∨ 99 < n ∨ g < 0 ∨ 9 < g) ∧ waF f n g = 1) ∨ ((1 ≤ n ∧ n ≤ 99 ∧ 0 ≤ g ∧ g ≤ 9) ∧ ((shF f (f 27).toInt = 1 ∧ waF f n g = 2) ∨ (¬ shF f (f 27).toInt = 1 ∧ (f 26).toInt = 8 ∧ waF f n g = 3) ∨ (¬ shF f (f 27).toInt = 1 ∧ ¬ (f 26).toInt = 8 ∧ waF f n g = 0))) := by
  unfold waF; repeat' split
  all_goals omega
/-! what they do -/
def vsS (b : Int) : Nat → Int32 := uR (uR f 27 (orI (f 27).toInt (pw2 (bnF f b)))) 29 (addI (f 29).toInt (f (33 + bnF f b).toNat).toInt)
def gsS : Nat → Int32 := uR f 30 (addI (f 30).toInt 1)
def hsS (k : Int) : Nat → Int32 := uR f 28 (xorI (f 28).toInt (pw2 k))
def psS (k n : Int) : Nat → Int32 := uR f (33 + k).toNat n
def asS (n g : Int) : Nat → Int32 := uR (uR (uR f 26 ((f 26).toInt + 1)) (33 + (f 26).toInt).toNat n) (41 + (f 26).toInt).toNat g
noncomputable def drS : Nat → Int32 := uR f 32 (dxF (f 32).toInt)
noncomputable def drF (b : Int) : Int := rmI (dwF (f 32).toInt) b
/-- who comes: the first whose odds and those of all ahead are above the draw -/
def coR : Nat → Int → Int → Int
  | 0, b, _ => b
  | n + 1, b, l => if (f (20 + b).toNat).toInt ≤ l then coR n (b + 1) (l - (f (20 + b).toNat).toInt) else b
theorem coR_s {b l : Int} (h : b < 6) : ((f (20 + b).toNat).toInt ≤ l ∧ coR f (6 - b).toNat b l = coR f (6 - (b + 1)).toNat (b + 1) (l - (f (20 + b).toNat).toInt)) ∨ (¬ (f (20 + b).toNat).toInt ≤ l ∧ coR f (6 - b).toNat b l = b) := by
  rw [show (6 - b).toNat = (6 - (b + 1)).toNat + 1 by omega, coR]
  split
  · exact Or.inl ⟨by assumption, rfl⟩
  · exact Or.inr ⟨by assumption, rfl⟩
def ogF : Int := psF f (f 1).toInt.toNat
/-- a day: the row with the day counted, with the draw made; who comes; what is bought -/
def dgS : Nat → Int32 := uR f 31 (addI (f 31).toInt 1)
noncomputable def deS : Nat → Int32 := drS (dgS f)
noncomputable def dcF : Int := coR (deS f) 6 0 (drF (dgS f) (ogF (dgS f)))
noncomputable def dyA : Int := if ogF (dgS f) = 0 then 0 else if wvF (deS f) (dcF f) = 0 then 1 else 0
noncomputable def dyS : Nat → Int32 := if ogF (dgS f) = 0 then dgS f else if wvF (deS f) (dcF f) = 0 then vsS (deS f) (dcF f) else deS f
theorem dy_0 (h : ogF (dgS f) = 0) : dyA f = 0 ∧ dyS f = dgS f := by unfold dyA dyS; rw [if_pos h, if_pos h]; exact ⟨rfl, rfl⟩
theorem dy_1 (h : ¬ ogF (dgS f) = 0) (h2 : wvF (deS f) (dcF f) = 0) : dyA f = 1 ∧ dyS f = vsS (deS f) (dcF f) := by unfold dyA dyS; rw [if_neg h, if_neg h, if_pos h2, if_pos h2]; exact ⟨rfl, rfl⟩
theorem dy_2 (h : ¬ ogF (dgS f) = 0) (h2 : ¬ wvF (deS f) (dcF f) = 0) : dyA f = 0 ∧ dyS f = deS f := by unfold dyA dyS; rw [if_neg h, if_neg h, if_neg h2, if_neg h2]; exact ⟨rfl, rfl⟩
theorem dyA_b : 0 ≤ dyA f ∧ dyA f ≤ 1 := by unfold dyA; repeat' split
                                            all_goals omega
/-- n days: the row, how much was bought -/
noncomputable def dsS : Nat → (Nat → Int32) × Int
  | 0 => (f, 0)
  | n + 1 => (dyS (dsS n).1, (dsS n).2 + dyA (dsS n).1)
theorem ds_s {k k' : Int} (h : 0 ≤ k) (hk : k' = k + 1) : (dsS f k'.toNat).1 = dyS (dsS f k.toNat).1 ∧ (dsS f k'.toNat).2 = (dsS f k.toNat).2 + dyA (dsS f k.toNat).1 := by
  subst hk
  rw [show (k + 1).toNat = k.toNat + 1 by omega, dsS]
  exact ⟨rfl, rfl⟩
/-! a deed as a tray tells it -/
def wnF (v : Int) : Int := if v = -1 then 0 else if 0 ≤ v ∧ v ≤ 9 then wvF f v else if 100 ≤ v ∧ v ≤ 109 then wkF f (v - 100) else if 200 ≤ v ∧ v ≤ 209 then wkF f (v - 200) else if 1000 ≤ v ∧ v ≤ 1999 then wpF f ((v - 1000) / 100) (v % 100) else 1
theorem wnF_s (v : Int) : (v = -1 ∧ wnF f v = 0) ∨ ((0 ≤ v ∧ v ≤ 9) ∧ wnF f v = wvF f v) ∨ ((100 ≤ v ∧ v ≤ 109) ∧ wnF f v = wkF f (v - 100)) ∨ ((200 ≤ v ∧ v ≤ 209) ∧ wnF f v = wkF f (v - 200)) ∨ ((1000 ≤ v ∧ v ≤ 1999) ∧ wnF f v = wpF f ((v - 1000) / 100) (v % 100)) ∨ ((¬ v = -1 ∧ ¬ (0 ≤ v ∧ v ≤ 9) ∧ ¬ (100 ≤ v ∧ v ≤ 109) ∧ ¬ (200 ≤ v ∧ v ≤ 209) ∧ ¬ (1000 ≤ v ∧ v ≤ 1999)) ∧ wnF f v = 1) := by
  unfold wnF; repeat' split
  all_goals omega
noncomputable def doS (v : Int) : Nat → Int32 := if v = -1 then dyS f else if v < 100 then vsS f v else if v < 200 then gsS f else if v < 1000 then hsS f (v - 200) else psS f ((v - 1000) / 100) (v % 100)
theorem do_m {v : Int} (h : v = -1) : doS f v = dyS f := by unfold doS; rw [if_pos h]
theorem do_v {v : Int} (h : 0 ≤ v ∧ v < 100) : doS f v = vsS f v := by unfold doS; rw [if_neg (by omega), if_pos h.2]
theorem do_g {v : Int} (h : 100 ≤ v ∧ v < 200) : doS f v = gsS f := by unfold doS; rw [if_neg (by omega), if_neg (by omega), if_pos h.2]
theorem do_h {v : Int} (h : 200 ≤ v ∧ v < 1000) : doS f v = hsS f (v - 200) := by unfold doS; rw [if_neg (by omega), if_neg (by omega), if_neg (by omega), if_pos h.2]
theorem do_p {v : Int} (h : 1000 ≤ v) : doS f v = psS f ((v - 1000) / 100) (v % 100) := by unfold doS; rw [if_neg (by omega), if_neg (by omega), if_neg (by omega), if_neg (by omega)]
/-- the deeds of a tray till one can't be: the row, why not, how many were done -/
noncomputable def tlF (T : Nat → Int) : Nat → (Nat → Int32) × Int × Int
  | 0 => (f, 0, 0)
  | n + 1 => if (tlF T n).2.1 = 0 then (if wnF (tlF T n).1 (T n) = 0 then (doS (tlF T n).1 (T n), 0, (n : Int) + 1) else ((tlF T n).1, wnF (tlF T n).1 (T n), (n : Int))) else tlF T n
theorem tl_y {T : Nat → Int} {k k' : Int} (h : 0 ≤ k) (hk : k' = k + 1) (h0 : (tlF f T k.toNat).2.1 = 0) (h1 : wnF (tlF f T k.toNat).1 (T k.toNat) = 0) : (tlF f T k'.toNat).1 = doS (tlF f T k.toNat).1 (T k.toNat) ∧ (tlF f T k'.toNat).2.1 = 0 ∧ (tlF f T k'.toNat).2.2 = k' := by
  subst hk
  rw [show (k + 1).toNat = k.toNat + 1 by omega, tlF, if_pos h0, if_pos h1]
  exact ⟨rfl, rfl, by show ((k.toNat : Nat) : Int) + 1 = k + 1; omega⟩
theorem tl_n {T : Nat → Int} {k k' : Int} (h : 0 ≤ k) (hk : k' = k + 1) (h0 : (tlF f T k.toNat).2.1 = 0) (h1 : ¬ wnF (tlF f T k.toNat).1 (T k.toNat) = 0) : (tlF f T k'.toNat).1 = (tlF f T k.toNat).1 ∧ (tlF f T k'.toNat).2.1 = wnF (tlF f T k.toNat).1 (T k.toNat) ∧ (tlF f T k'.toNat).2.2 = k := by
  subst hk
  rw [show (k + 1).toNat = k.toNat + 1 by omega, tlF, if_pos h0, if_neg h1]
  exact ⟨rfl, rfl, by show ((k.toNat : Nat) : Int) = k; omega⟩
theorem tl_x {T : Nat → Int} : ∀ (j n : Nat), n ≤ j → ¬ (tlF f T n).2.1 = 0 → tlF f T j = tlF f T n
  | 0, n, h, _ => by rw [show n = 0 by omega]
  | j + 1, n, h, h0 => by
    by_cases q : n = j + 1
    · rw [q]
    · have ih := tl_x j n (by omega) h0
      rw [tlF, ih, if_neg h0]
/-! what was: the stock's row as kept, as noted, as brought back -/
def kpF : Nat → Int32 := fun j => f (26 + j)
def iaF (w : Nat → Int32) (k : Nat) : Nat → Int32 := fun j => if 26 ≤ j ∧ j < 26 + k then w (j - 26) else f j
def shS (k : Nat) : Nat → Int32 := fun j => if 50 ≤ j ∧ j < 50 + k then f (j + 23) else f j
def wrS (w : Nat → Int32) (n k : Nat) : Nat → Int32 := fun j => if 50 + 23 * n ≤ j ∧ j < 50 + 23 * n + k then w (j - (50 + 23 * n)) else f j
def n1F : Nat → Int32 := if (f 49).toInt = 10 then uR (shS f 207) 49 9 else f
def ntF (w : Nat → Int32) : Nat → Int32 := uR (wrS (n1F f) w (n1F f 49).toInt.toNat 23) 49 ((n1F f 49).toInt + 1)
def unF (n k : Nat) : Nat → Int32 := fun j => if 26 ≤ j ∧ j < 26 + k then f (50 + 23 * n + (j - 26)) else f j
/-- a deed that can be undone -/
def puF (g : Nat → Int32) : Nat → Int32 := ntF g (kpF f)
end GD
/-! the reference's walk: rows behind writes -/
theorem vs_w {M M1 N : mm_M} {f : Nat → Int32} {b k p : Int} (hf : M.1 99 = f) (e2 : M1 = wI M 99 27 (sI (orI (f 27).toInt (pw2 k)))) (e1 : N = wI M1 99 29 (sI (addI (f 29).toInt p))) (q : k = bnF f b ∧ 0 ≤ k ∧ p = (M1.1 99 (33 + k).toNat).toInt) : b01 (N.1 99 = vsS f b) = 1 := b01_i (by
  obtain ⟨rfl, h0, rfl⟩ := q
  rw [uR_w e1, uR_w e2, hf]
  unfold vsS
  rw [uR_n (show (33 + bnF f b).toNat ≠ 27 by omega)])
theorem dr_w {M N : mm_M} {f : Nat → Int32} {r : Int} (hf : M.1 99 = f) (e : N = wI M 99 32 (sI (addI r 12345))) (h : r = mlN (f 32).toInt) : b01 (N.1 99 = drS f) = 1 := b01_i (by
  rw [uR_w e, hf, h]; rfl)
theorem dr_a {M N : mm_M} {f : Nat → Int32} {r : Int} (e : N = wI M 99 32 (sI (addI r 12345))) (h : r = mlN (f 32).toInt) (b : Int) : rmI (ushrI (N.1 99 32).toInt 16) b = drF f b := by
  have : (N.1 99 32).toInt = addI r 12345 := by rw [wI_at e]; exact sI_t (sI_r _)
  rw [this, h]; rfl
theorem dg_w {M N : mm_M} {f : Nat → Int32} (hf : M.1 99 = f) (e : N = wI M 99 31 (sI (addI (f 31).toInt 1))) : N.1 99 = dgS f := by rw [uR_w e, hf]; rfl
theorem dy_i {f g h : Nat → Int32} {a : Int} (hg : g = dgS f) (hr : b01 (h = drS g) = 1) (ha : a = drF g (psF g (g 1).toInt.toNat)) : coR h (6 - 0 : Int).toNat 0 a = dcF f ∧ h = deS f := by
  have hr := b01_e hr
  subst hg
  subst hr
  subst ha
  exact ⟨rfl, rfl⟩
theorem dy_r0 {f g : Nat → Int32} (hg : g = dgS f) (h : psF g (g 1).toInt.toNat = 0) : dyA f = 0 ∧ b01 (g = dyS f) = 1 := by
  subst hg
  have := dy_0 f h
  exact ⟨this.1, b01_i this.2.symm⟩
theorem dy_r1 {f g h h' N : Nat → Int32} {c : Int} (hg : g = dgS f) (hh : h = deS f) (h2 : h' = h) (e : b01 (N = vsS h' c) = 1) (ho : ¬ psF g (g 1).toInt.toNat = 0) (hc : c = dcF f) (hw : wvF h c = 0) : dyA f = 1 ∧ b01 (N = dyS f) = 1 := by
  have e := b01_e e
  subst hg
  subst hh
  subst h2
  subst hc
  have := dy_1 f ho hw
  exact ⟨this.1, b01_i (e.trans this.2.symm)⟩
theorem dy_r2 {f g h h' : Nat → Int32} {c : Int} (hg : g = dgS f) (hh : h = deS f) (h2 : h' = h) (ho : ¬ psF g (g 1).toInt.toNat = 0) (hc : c = dcF f) (hw : ¬ wvF h c = 0) : dyA f = 0 ∧ b01 (h' = dyS f) = 1 := by
  subst hg
  subst hh
  subst h2
  subst hc
  have := dy_2 f ho hw
  exact ⟨this.1, b01_i this.2.symm⟩
def KPN (M : mm_M) (f : Nat → Int32) (x : Int) : Prop := ∀ k : Nat, (k : Int) < x → M.1 105 k = f (26 + k)
theorem kn_0 (M : mm_M) (f : Nat → Int32) : b01 (KPN M f 0) = 1 := b01_i (fun k h => by omega)
theorem kn_s {M N : mm_M} {f : Nat → Int32} {x x' : Int} (h : b01 (KPN M f x) = 1) (e : N = wI M 105 x.toNat (sI (f (26 + x).toNat).toInt)) (q : 0 ≤ x ∧ x' = x + 1) : b01 (KPN N f x') = 1 := b01_i (fun k hk => by
  by_cases c : k = x.toNat
  · rw [c, wI_at e, sI_o, show (26 + x).toNat = 26 + x.toNat by omega]
  · rw [wI_ne e c]; exact b01_e h k (by omega))
theorem kn_f {M N : mm_M} {f : Nat → Int32} {x : Int} (h : b01 (KPN M f x) = 1) (e : N.1 105 = M.1 105) : b01 (KPN N f x) = 1 := b01_i (by unfold KPN; rw [e]; exact b01_e h)
theorem ia_0 (f w : Nat → Int32) : b01 (f = iaF f w (0 : Int).toNat) = 1 := b01_i (by funext j; unfold iaF; rw [if_neg (by omega)])
theorem ia_s {M N : mm_M} {f w : Nat → Int32} {x x' : Int} (h : b01 (M.1 99 = iaF f w x.toNat) = 1) (e : N = wI M 99 (26 + x).toNat (sI (w x.toNat).toInt)) (q : 0 ≤ x ∧ x' = x + 1) : b01 (N.1 99 = iaF f w x'.toNat) = 1 := b01_i (by
  rw [uR_w e, b01_e h]
  funext j
  unfold uR iaF
  by_cases c : j = (26 + x).toNat
  · rw [if_pos c, if_pos (by omega), sI_o, show j - 26 = x.toNat by omega]
  · rw [if_neg c]
    by_cases d : 26 ≤ j ∧ j < 26 + x.toNat
    · rw [if_pos d, if_pos (by omega)]
    · rw [if_neg d, if_neg (by omega)])
theorem ia_k {M N : mm_M} {f g : Nat → Int32} (e : b01 (N.1 99 = iaF g (M.1 105) 23) = 1) (hk : b01 (KPN M f 23) = 1) (hg : ∀ j, (j < 26 ∨ 49 ≤ j) → g j = f j) : b01 (N.1 99 = f) = 1 := b01_i (by
  rw [b01_e e]
  funext j
  unfold iaF
  by_cases c : 26 ≤ j ∧ j < 26 + 23
  · rw [if_pos c, b01_e hk (j - 26) (by omega), show 26 + (j - 26) = j by omega]
  · rw [if_neg c]; exact hg j (by omega))
theorem sh_0 (f : Nat → Int32) : b01 (f = shS f (0 : Int).toNat) = 1 := b01_i (by funext j; unfold shS; rw [if_neg (by omega)])
theorem sh_s {M N : mm_M} {f : Nat → Int32} {x x' : Int} {v : Int32} (h : b01 (M.1 99 = shS f x.toNat) = 1) (e : N = wI M 99 (50 + x).toNat v) (hv : v = M.1 99 (73 + x).toNat) (q : 0 ≤ x ∧ x' = x + 1) : b01 (N.1 99 = shS f x'.toNat) = 1 := b01_i (by
  have h := b01_e h
  have hv : v = f (73 + x).toNat := by rw [hv, h]; unfold shS; rw [if_neg (by omega)]
  funext j
  by_cases c : j = (50 + x).toNat
  · rw [c, wI_at e, hv]
    unfold shS
    rw [if_pos (by omega), show (50 + x).toNat + 23 = (73 + x).toNat by omega]
  · rw [wI_ne e c, h]
    unfold shS
    by_cases d : 50 ≤ j ∧ j < 50 + x.toNat
    · rw [if_pos d, if_pos (by omega)]
    · rw [if_neg d, if_neg (by omega)])
theorem n1_y {M N : mm_M} {f : Nat → Int32} {x : Int} (h : b01 (M.1 99 = shS f (207 : Int).toNat) = 1) (e : N = wI M 99 49 (sI x)) (q : (f 49).toInt = 10 ∧ x = 9) : b01 (N.1 99 = n1F f) = 1 := b01_i (by
  rw [uR_w e, b01_e h, q.2]; unfold n1F; rw [if_pos q.1]; rfl)
theorem n1_n {f : Nat → Int32} (h : ¬ (f 49).toInt = 10) : b01 (f = n1F f) = 1 := b01_i (by unfold n1F; rw [if_neg h])
theorem wr_0 {f g : Nat → Int32} (w : Nat → Int32) (n : Nat) (h : b01 (f = g) = 1) : b01 (f = wrS g w n (0 : Int).toNat) = 1 := b01_i (by rw [b01_e h]; funext j; unfold wrS; rw [if_neg (by omega)])
theorem wr_s {M N : mm_M} {f w : Nat → Int32} {x x' y : Int} {n : Nat} (h : b01 (M.1 99 = wrS f w n x.toNat) = 1) (e : N = wI M 99 y.toNat (sI (w x.toNat).toInt)) (q : 0 ≤ x ∧ x' = x + 1 ∧ y = 50 + 23 * (n : Int) + x) : b01 (N.1 99 = wrS f w n x'.toNat) = 1 := b01_i (by
  rw [uR_w e, b01_e h]
  funext j
  unfold uR wrS
  by_cases c : j = y.toNat
  · rw [if_pos c, if_pos (by omega), sI_o, show j - (50 + 23 * n) = x.toNat by omega]
  · rw [if_neg c]
    by_cases d : 50 + 23 * n ≤ j ∧ j < 50 + 23 * n + x.toNat
    · rw [if_pos d, if_pos (by omega)]
    · rw [if_neg d, if_neg (by omega)])
theorem wr_49 (f w : Nat → Int32) (n k : Nat) : wrS f w n k 49 = f 49 := by unfold wrS; rw [if_neg (by omega)]
theorem nt_w {M N : mm_M} {f w : Nat → Int32} {n : Nat} {v : Int} (h : b01 (M.1 99 = wrS (n1F f) w n (23 : Int).toNat) = 1) (e : N = wI M 99 49 (sI (v + 1))) (q : (n1F f 49).toInt.toNat = n ∧ v = (M.1 99 49).toInt) : b01 (N.1 99 = ntF f w) = 1 := b01_i (by
  have h := b01_e h
  rw [q.2, h, wr_49] at e
  rw [uR_w e, h]
  unfold ntF
  rw [q.1]; rfl)
theorem nt_k {N g w f : Nat → Int32} (e : b01 (N = ntF g w) = 1) (hk : ∀ k : Nat, (k : Int) < 23 → w k = f (26 + k)) : b01 (N = ntF g (kpF f)) = 1 := b01_i (by
  rw [b01_e e]
  unfold ntF
  congr 1
  funext j
  unfold wrS
  by_cases c : 50 + 23 * (n1F g 49).toInt.toNat ≤ j ∧ j < 50 + 23 * (n1F g 49).toInt.toNat + 23
  · rw [if_pos c, if_pos c, hk _ (by omega)]; rfl
  · rw [if_neg c, if_neg c])
theorem un_0 {f g : Nat → Int32} (n : Nat) (h : f = g) : b01 (f = unF g n (0 : Int).toNat) = 1 := b01_i (by rw [h]; funext j; unfold unF; rw [if_neg (by omega)])
theorem un_s {M N : mm_M} {f : Nat → Int32} {x x' y : Int} {n : Nat} {v : Int32} (h : b01 (M.1 99 = unF f n x.toNat) = 1) (e : N = wI M 99 (26 + x).toNat v) (hv : v = M.1 99 y.toNat) (q : 0 ≤ x ∧ x < 23 ∧ x' = x + 1 ∧ y = 50 + 23 * (n : Int) + x) : b01 (N.1 99 = unF f n x'.toNat) = 1 := b01_i (by
  have h := b01_e h
  have hv : v = f (50 + 23 * n + x.toNat) := by rw [hv, h]; unfold unF; rw [if_neg (by omega), show y.toNat = 50 + 23 * n + x.toNat by omega]
  funext j
  by_cases c : j = (26 + x).toNat
  · rw [c, wI_at e, hv]
    unfold unF
    rw [if_pos (by omega), show (26 + x).toNat - 26 = x.toNat by omega]
  · rw [wI_ne e c, h]
    unfold unF
    by_cases d : 26 ≤ j ∧ j < 26 + x.toNat
    · rw [if_pos d, if_pos (by omega)]
    · rw [if_neg d, if_neg (by omega)])
def unS (f : Nat → Int32) (n : Int) : Nat → Int32 := unF (uR f 49 ((f 49).toInt - n)) ((f 49).toInt - n).toNat 23
/-! what is asked -/
def wbF (f : Nat → Int32) (k : Int) : Nat → Int
  | 0 => 0
  | n + 1 => orI (wbF f k n) (if bnF f (n : Int) = k then pw2 (n : Int) else 0)
theorem wb_s (f : Nat → Int32) (k : Int) {x x' a : Int} (h : 0 ≤ x) (hx : x' = x + 1) (ha : a = wbF f k x.toNat) : (bnF f x = k ∧ wbF f k x'.toNat = orI a (pw2 x)) ∨ (¬ bnF f x = k ∧ wbF f k x'.toNat = orI a 0) := by
  subst hx
  subst ha
  rw [show (x + 1).toNat = x.toNat + 1 by omega, wbF, show ((x.toNat : Nat) : Int) = x by omega]
  split
  · exact Or.inl ⟨by assumption, rfl⟩
  · exact Or.inr ⟨by assumption, rfl⟩
def mwF (f : Nat → Int32) (b : Int) : Nat → Int
  | 0 => 0
  | n + 1 => orI (mwF f b n) (if mbF f b (n : Int) (f 27).toInt = 0 then 0 else pw2 (n : Int))
theorem mw_s (f : Nat → Int32) (b : Int) {x x' a : Int} (h : 0 ≤ x) (hx : x' = x + 1) (ha : a = mwF f b x.toNat) : (¬ mbF f b x (f 27).toInt = 0 ∧ mwF f b x'.toNat = orI a (pw2 x)) ∨ (mbF f b x (f 27).toInt = 0 ∧ mwF f b x'.toNat = orI a 0) := by
  subst hx
  subst ha
  rw [show (x + 1).toNat = x.toNat + 1 by omega, mwF, show ((x.toNat : Nat) : Int) = x by omega]
  split
  · exact Or.inr ⟨by assumption, rfl⟩
  · exact Or.inl ⟨by assumption, rfl⟩
def knF (f : Nat → Int32) (k w : Int) : Int := if k < 0 ∨ (f 26).toInt ≤ k then -2 else if w = 0 then (f (33 + k).toNat).toInt else if w = 1 then (f (41 + k).toNat).toInt else if w = 2 then andI (shrI (f 27).toInt k) 1 else if w = 3 then andI (shrI (f 28).toInt k) 1 else if w = 4 then wbF f k (f 1).toInt.toNat else -2
theorem knF_s (f : Nat → Int32) (k w : Int) : ((k < 0 ∨ (f 26).toInt ≤ k) ∧ knF f k w = -2) ∨ ((0 ≤ k ∧ k < (f 26).toInt) ∧ ((w = 0 ∧ knF f k w = (f (33 + k).toNat).toInt) ∨ (w = 1 ∧ knF f k w = (f (41 + k).toNat).toInt) ∨ (w = 2 ∧ knF f k w = andI (shrI (f 27).toInt k) 1) ∨ (w = 3 ∧ knF f k w = andI (shrI (f 28).toInt k) 1) ∨ (w = 4 ∧ knF f k w = wbF f k (f 1).toInt.toNat) ∨ ((¬ w = 0 ∧ ¬ w = 1 ∧ ¬ w = 2 ∧ ¬ w = 3 ∧ ¬ w = 4) ∧ knF f k w = -2))) := by
  unfold knF; repeat' split
  all_goals omega
def byF (f : Nat → Int32) (b w : Int) : Int := if b < 0 ∨ (f 1).toInt ≤ b then -2 else if w = 0 then (f (8 + b).toNat).toInt else if w = 1 then (f (14 + b).toNat).toInt else if w = 2 then (f (20 + b).toNat).toInt else if w = 3 then mwF f b (f 26).toInt.toNat else if w = 4 then bnF f b else -2
theorem byF_s (f : Nat → Int32) (b w : Int) : ((b < 0 ∨ (f 1).toInt ≤ b) ∧ byF f b w = -2) ∨ ((0 ≤ b ∧ b < (f 1).toInt) ∧ ((w = 0 ∧ byF f b w = (f (8 + b).toNat).toInt) ∨ (w = 1 ∧ byF f b w = (f (14 + b).toNat).toInt) ∨ (w = 2 ∧ byF f b w = (f (20 + b).toNat).toInt) ∨ (w = 3 ∧ byF f b w = mwF f b (f 26).toInt.toNat) ∨ (w = 4 ∧ byF f b w = bnF f b) ∨ ((¬ w = 0 ∧ ¬ w = 1 ∧ ¬ w = 2 ∧ ¬ w = 3 ∧ ¬ w = 4) ∧ byF f b w = -2))) := by
  unfold byF; repeat' split
  all_goals omega
def wsF (f : Nat → Int32) (b k : Int) : Int := if (b < 0 ∨ (f 1).toInt ≤ b) ∨ (k < 0 ∨ (f 26).toInt ≤ k) then -99000002 else wtF f b k (f 27).toInt
theorem wsF_s (f : Nat → Int32) (b k : Int) : (((b < 0 ∨ (f 1).toInt ≤ b) ∨ (k < 0 ∨ (f 26).toInt ≤ k)) ∧ wsF f b k = -99000002) ∨ ((0 ≤ b ∧ b < (f 1).toInt) ∧ (0 ≤ k ∧ k < (f 26).toInt) ∧ wsF f b k = wtF f b k (f 27).toInt) := by
  unfold wsF; repeat' split
  all_goals omega
/-! places that no deed writes -/
def SM49 (f g : Nat → Int32) : Prop := ∀ j, (j < 26 ∨ 49 ≤ j) → g j = f j
theorem smq_t {f g h : Nat → Int32} (a : SM49 f g) (b : SM49 g h) : SM49 f h := fun j hj => (b j hj).trans (a j hj)
theorem smq_u {f g : Nat → Int32} {k : Nat} {v : Int} (h : SM49 f g) (hk : 26 ≤ k ∧ k < 49) : SM49 f (uR g k v) := fun j hj => by rw [uR_n (by omega)]; exact h j hj
theorem smq_r (f : Nat → Int32) : SM49 f f := fun _ _ => rfl
theorem smq_vs {f : Nat → Int32} (b : Int) : SM49 f (vsS f b) := smq_u (smq_u (smq_r f) (by decide)) (by decide)
theorem smq_dy (f : Nat → Int32) : SM49 f (dyS f) := by
  have a : SM49 f (dgS f) := smq_u (smq_r f) (by decide)
  have b : SM49 f (deS f) := smq_t a (smq_u (smq_r _) (by decide))
  unfold dyS
  repeat' split
  · exact a
  · exact smq_t b (smq_vs _)
  · exact b
theorem smq_do {f : Nat → Int32} {v : Int} (h : wnF f v = 0) (hk : (f 26).toInt ≤ 8) : SM49 f (doS f v) := by
  have s := wnF_s f v
  by_cases q1 : v = -1
  · rw [do_m f q1]; exact smq_dy f
  by_cases q2 : v < 100
  · rw [do_v f (by omega)]; exact smq_vs v
  by_cases q3 : v < 200
  · rw [do_g f (by omega)]; exact smq_u (smq_r f) (by decide)
  by_cases q4 : v < 1000
  · rw [do_h f (by omega)]; exact smq_u (smq_r f) (by decide)
  · rw [do_p f (by omega)]
    have w := wpF_s f ((v - 1000) / 100) (v % 100)
    exact smq_u (smq_r f) (by omega)
theorem un_49 {g f : Nat → Int32} {n k : Nat} {v : Int} (h : b01 (g = unF (uR f 49 v) n k) = 1) (hk : k ≤ 23) (hv : -2147483648 ≤ v ∧ v ≤ 2147483647) : (g 49).toInt = v := by
  rw [b01_e h]
  unfold unF
  rw [if_neg (by omega), uR_s]; exact sI_t hv
theorem nt_lo {g w : Nat → Int32} {j : Nat} (h : j < 49) : ntF g w j = g j := by
  unfold ntF
  rw [uR_n (by omega)]
  unfold wrS
  rw [if_neg (by omega)]
  unfold n1F
  split
  · rw [uR_n (by omega)]; unfold shS; rw [if_neg (by omega)]
  · rfl
def puI (w : Int) (f g : Nat → Int32) : Nat → Int32 := if w = 0 then ntF g (kpF f) else f
def aI (w a : Int) : Int := if w = 0 then a else -10 - w
theorem pu_y {w a : Int} {f g N : Nat → Int32} (h : w = 0) (e : b01 (N = ntF g (kpF f)) = 1) : b01 (N = puI w f g) = 1 ∧ aI w a = a := by
  unfold puI aI; rw [if_pos h, if_pos h]; exact ⟨e, rfl⟩
theorem pu_n {w : Int} {f N : Nat → Int32} (h : ¬ w = 0) (e : N = f) (g : Nat → Int32) (a : Int) : b01 (N = puI w f g) = 1 ∧ aI w a = -10 - w := by
  unfold puI aI; rw [if_neg h, if_neg h]; exact ⟨b01_i e, rfl⟩
theorem aI_s (w a : Int) : (w = 0 ∧ aI w a = a) ∨ (¬ w = 0 ∧ aI w a = -10 - w) := by
  unfold aI; split
  · exact Or.inl ⟨by assumption, rfl⟩
  · exact Or.inr ⟨by assumption, rfl⟩
/-- notes() behind keeps(): the row as it was is what is noted -/
theorem nt_q {M Mk N : mm_M} {f : Nat → Int32} (e : b01 (N.1 99 = ntF (M.1 99) (M.1 105)) = 1) (hk : b01 (KPN Mk f 23) = 1) (h5 : M.1 105 = Mk.1 105) {g : Nat → Int32} (hg : M.1 99 = g) : b01 (N.1 99 = ntF g (kpF f)) = 1 := by
  rw [← hg]
  exact nt_k e (fun k h => by rw [h5]; exact b01_e hk k h)
theorem as_w {M M1 M2 N : mm_M} {f : Nat → Int32} {n g : Int} (hf : M.1 99 = f) (e3 : M1 = wI M 99 26 (sI ((f 26).toInt + 1))) (e2 : M2 = wI M1 99 (33 + (f 26).toInt).toNat (sI n)) (e1 : N = wI M2 99 (41 + (f 26).toInt).toNat (sI g)) : N.1 99 = asS f n g := by
  rw [uR_w e1, uR_w e2, uR_w e3, hf]; rfl
/-! days -/
noncomputable def daA (f : Nat → Int32) (n : Int) : Int := if 1 ≤ n ∧ n ≤ 99 then (dsS f n.toNat).2 else -3
noncomputable def daS (f : Nat → Int32) (n : Int) : Nat → Int32 := if 1 ≤ n ∧ n ≤ 99 then ntF (dsS f n.toNat).1 (kpF f) else f
theorem da_y {f N : Nat → Int32} {n a : Int} (h : 1 ≤ n ∧ n ≤ 99) (ha : a = (dsS f n.toNat).2) (e : b01 (N = ntF (dsS f n.toNat).1 (kpF f)) = 1) : a = daA f n ∧ b01 (N = daS f n) = 1 := by
  unfold daA daS; rw [if_pos h, if_pos h]; exact ⟨ha, e⟩
theorem da_n {f N : Nat → Int32} {n : Int} (h : ¬ (1 ≤ n ∧ n ≤ 99)) (e : N = f) : daA f n = -3 ∧ b01 (N = daS f n) = 1 := by
  unfold daA daS; rw [if_neg h, if_neg h]; exact ⟨rfl, b01_i e⟩
theorem ds_0 (f : Nat → Int32) : b01 (f = (dsS f (0 : Int).toNat).1) = 1 ∧ (dsS f (0 : Int).toNat).2 = 0 := ⟨b01_i rfl, rfl⟩
theorem ds_w {f g N : Nat → Int32} {x x' a b : Int} (h : b01 (g = (dsS f x.toNat).1) = 1) (e : b01 (N = dyS g) = 1) (ha : a = (dsS f x.toNat).2) (hb : b = dyA g) (q : 0 ≤ x ∧ x' = x + 1) : b01 (N = (dsS f x'.toNat).1) = 1 ∧ a + b = (dsS f x'.toNat).2 := by
  have h := b01_e h
  have e := b01_e e
  have s := ds_s f q.1 q.2
  rw [s.1, s.2, ← h]
  exact ⟨b01_i e, by rw [ha, hb]⟩
/-! undo -/
def uoA (f : Nat → Int32) (n : Int) : Int := if 1 ≤ n ∧ n ≤ 10 ∧ n ≤ (f 49).toInt then (f 49).toInt - n else -3
def uoS (f : Nat → Int32) (n : Int) : Nat → Int32 := if 1 ≤ n ∧ n ≤ 10 ∧ n ≤ (f 49).toInt then unS f n else f
theorem uo_y {f N : Nat → Int32} {n a : Int} (h : 1 ≤ n ∧ n ≤ 10 ∧ n ≤ (f 49).toInt) (ha : a = (f 49).toInt - n) (e : b01 (N = unF (uR f 49 ((f 49).toInt - n)) ((f 49).toInt - n).toNat (23 : Int).toNat) = 1) : a = uoA f n ∧ b01 (N = uoS f n) = 1 := by
  unfold uoA uoS; rw [if_pos h, if_pos h]; exact ⟨ha, e⟩
theorem uo_n {f N : Nat → Int32} {n : Int} (h : ¬ (1 ≤ n ∧ n ≤ 10 ∧ n ≤ (f 49).toInt)) (e : N = f) : uoA f n = -3 ∧ b01 (N = uoS f n) = 1 := by
  unfold uoA uoS; rw [if_neg h, if_neg h]; exact ⟨rfl, b01_i e⟩
/-! trays: their deeds -/
def tyM (M : mm_M) (t : Int) (i : Nat) : Int := (M.2.1 117 (40 * t + (i : Int)).toNat).toInt
theorem ty_e (M : mm_M) (t : Int) {k : Int} (h : 0 ≤ k) : tyM M t k.toNat = (M.2.1 117 (40 * t + k).toNat).toInt := by unfold tyM; rw [show ((k.toNat : Nat) : Int) = k by omega]
/-- which deeds of tray t can be, and the row behind them -/
noncomputable def tqF (M : mm_M) (t : Int) : (Nat → Int32) × Int × Int := tlF (M.1 99) (tyM M t) (M.1 116 t.toNat).toInt.toNat
theorem tl_0 (f : Nat → Int32) (T : Nat → Int) : b01 (f = (tlF f T (0 : Int).toNat).1) = 1 ∧ (tlF f T (0 : Int).toNat).2.1 = 0 ∧ (tlF f T (0 : Int).toNat).2.2 = 0 := ⟨b01_i rfl, rfl, rfl⟩
theorem tl_go {f g h' N : Nat → Int32} {T : Nat → Int} {x x' v w : Int} (h : b01 (g = (tlF f T x.toNat).1) = 1) (h0 : (tlF f T x.toNat).2.1 = 0) (hv : v = T x.toNat) (hw : w = wnF g v) (hz : w = 0) (hg : h' = g) (e : b01 (N = doS h' v) = 1) (q : 0 ≤ x ∧ x' = x + 1) : b01 (N = (tlF f T x'.toNat).1) = 1 ∧ (tlF f T x'.toNat).2.1 = 0 ∧ (tlF f T x'.toNat).2.2 = x' := by
  have h := b01_e h
  have e := b01_e e
  subst hg
  subst hv
  rw [h] at hw e
  have s := tl_y f q.1 q.2 h0 (by rw [← hw]; exact hz)
  exact ⟨b01_i (e.trans s.1.symm), s.2.1, s.2.2⟩
theorem tl_st {f g N : Nat → Int32} {T : Nat → Int} {x n v w : Int} (h : b01 (g = (tlF f T x.toNat).1) = 1) (h0 : (tlF f T x.toNat).2.1 = 0) (hv : v = T x.toNat) (hw : w = wnF g v) (hz : ¬ w = 0) (hg : N = g) (q : 0 ≤ x ∧ x < n) : b01 (N = (tlF f T n.toNat).1) = 1 ∧ (tlF f T n.toNat).2.1 = w ∧ (tlF f T n.toNat).2.2 = x := by
  have h := b01_e h
  subst hg
  subst hv
  rw [h] at hw
  have s := tl_n f (k' := x + 1) q.1 rfl h0 (by rw [← hw]; exact hz)
  have z := tl_x f n.toNat (x + 1).toNat (T := T) (by omega) (by rw [s.2.1, ← hw]; exact hz)
  rw [z]
  exact ⟨b01_i (h.trans s.1.symm), by rw [s.2.1, hw], s.2.2⟩
/-- what tells() leaves -/
def TLM (M N : mm_M) (t r : Int) : Prop := N.1 99 = (tqF M t).1 ∧ (N.1 98 18).toInt = (tqF M t).2.1 ∧ r = (tqF M t).2.2
theorem tlm_e {M N : mm_M} {t r : Int} (h : b01 (TLM M N t r) = 1) : N.1 99 = (tqF M t).1 ∧ (N.1 98 18).toInt = (tqF M t).2.1 ∧ r = (tqF M t).2.2 := b01_e h
/-! judge: nothing stays -/
def SMG (f g : Nat → Int32) : Prop := SM49 f g ∧ g 26 = f 26
theorem smk_do {f : Nat → Int32} {v : Int} (h : wnF f v = 0) (hk : (f 26).toInt ≤ 8) : SMG f (doS f v) := by
  refine ⟨smq_do h hk, ?_⟩
  have u : ∀ (g : Nat → Int32) (k : Nat) (x : Int), 26 ≠ k → uR g k x 26 = g 26 := fun g k x hk => uR_n hk
  have vs : ∀ (g : Nat → Int32) (b : Int), vsS g b 26 = g 26 := fun g b => by unfold vsS; rw [u _ _ _ (by decide), u _ _ _ (by decide)]
  have dg : dgS f 26 = f 26 := u _ _ _ (by decide)
  have de : deS f 26 = f 26 := by unfold deS drS; rw [u _ _ _ (by decide)]; exact dg
  unfold doS
  repeat' split
  · unfold dyS
    repeat' split
    · exact dg
    · rw [vs]; exact de
    · exact de
  · exact vs f v
  · exact u _ _ _ (by decide)
  · exact u _ _ _ (by decide)
  · have s := wnF_s f v
    have w := wpF_s f ((v - 1000) / 100) (v % 100)
    exact u _ _ _ (by omega)
theorem smk_tl {f : Nat → Int32} {T : Nat → Int} (hk : (f 26).toInt ≤ 8) : ∀ n : Nat, SMG f (tlF f T n).1
  | 0 => ⟨smq_r f, rfl⟩
  | n + 1 => by
    have ih := smk_tl (T := T) hk n
    rw [tlF]
    repeat' split
    · rename_i h0 h1
      have s := smk_do h1 (by rw [ih.2]; exact hk)
      exact ⟨smq_t ih.1 s.1, s.2.trans ih.2⟩
    · exact ih
    · exact ih
theorem ju_r {M M1 M2 N : mm_M} {f : Nat → Int32} {t : Int} (e : b01 (N.1 99 = iaF (M2.1 99) (M2.1 105) (23 : Int).toNat) = 1) (hk : b01 (KPN M1 f 23) = 1) (h5 : M2.1 105 = M1.1 105) (ht : M2.1 99 = (tlF f (tyM M t) (M.1 116 t.toNat).toInt.toNat).1) (h26 : (f 26).toInt ≤ 8) : b01 (N.1 99 = f) = 1 :=
  ia_k (M := M2) e (kn_f hk h5) (by rw [ht]; exact (smk_tl h26 _).1)
noncomputable def juA (p : (Nat → Int32) × Int × Int) (w : Int) : Int := if w = 0 then (if p.2.1 = 0 then -1 else p.2.2) else if w = 1 then p.2.1 else if w = 2 then (p.1 27).toInt else (p.1 29).toInt
theorem juA_s (p : (Nat → Int32) × Int × Int) (w : Int) : (w = 0 ∧ p.2.1 = 0 ∧ juA p w = -1) ∨ (w = 0 ∧ ¬ p.2.1 = 0 ∧ juA p w = p.2.2) ∨ (w = 1 ∧ juA p w = p.2.1) ∨ (w = 2 ∧ juA p w = (p.1 27).toInt) ∨ ((¬ w = 0 ∧ ¬ w = 1 ∧ ¬ w = 2) ∧ juA p w = (p.1 29).toInt) := by
  unfold juA; repeat' split
  all_goals omega
/-- a tray that can't be read -/
def ntA (M : mm_M) (t : Int) : Int := if t < 0 ∨ 3 < t then -2 else if (M.1 115 t.toNat).toInt = -1 then -6 else 0
theorem ntA_s (M : mm_M) (t : Int) : ((t < 0 ∨ 3 < t) ∧ ntA M t = -2) ∨ ((0 ≤ t ∧ t ≤ 3) ∧ (M.1 115 t.toNat).toInt = -1 ∧ ntA M t = -6) ∨ ((0 ≤ t ∧ t ≤ 3) ∧ ¬ (M.1 115 t.toNat).toInt = -1 ∧ ntA M t = 0) := by
  unfold ntA; repeat' split
  all_goals omega
noncomputable def jgA (M : mm_M) (t w : Int) : Int := if w < 0 ∨ 3 < w then -2 else if ntA M t = 0 then juA (tqF M t) w else ntA M t
theorem jgA_s (M : mm_M) (t w : Int) : ((w < 0 ∨ 3 < w) ∧ jgA M t w = -2) ∨ ((0 ≤ w ∧ w ≤ 3) ∧ ntA M t = 0 ∧ jgA M t w = juA (tqF M t) w) ∨ ((0 ≤ w ∧ w ≤ 3) ∧ ¬ ntA M t = 0 ∧ jgA M t w = ntA M t) := by
  unfold jgA; repeat' split
  all_goals omega
noncomputable def peA (M : mm_M) (t : Int) : Int := if ntA M t = 0 then (tqF M t).2.2 else ntA M t
noncomputable def peS (M : mm_M) (t : Int) : Nat → Int32 := if ntA M t = 0 then (if 0 < (tqF M t).2.2 then ntF (tqF M t).1 (kpF (M.1 99)) else (tqF M t).1) else M.1 99
theorem pe_1 {M : mm_M} {N : Nat → Int32} {t r : Int} (h : ntA M t = 0) (hr : r = (tqF M t).2.2) (h0 : 0 < r) (e : b01 (N = ntF (tqF M t).1 (kpF (M.1 99))) = 1) : r = peA M t ∧ b01 (N = peS M t) = 1 := by
  unfold peA peS; rw [if_pos h, if_pos h, if_pos (by omega)]; exact ⟨hr, e⟩
theorem pe_2 {M : mm_M} {N : Nat → Int32} {t r : Int} (h : ntA M t = 0) (hr : r = (tqF M t).2.2) (h0 : ¬ 0 < r) (e : N = (tqF M t).1) : r = peA M t ∧ b01 (N = peS M t) = 1 := by
  unfold peA peS; rw [if_pos h, if_pos h, if_neg (by omega)]; exact ⟨hr, b01_i e⟩
theorem pe_3 {M : mm_M} {N : Nat → Int32} {t r : Int} (h : ¬ ntA M t = 0) (hr : r = ntA M t) (e : N = M.1 99) : r = peA M t ∧ b01 (N = peS M t) = 1 := by
  unfold peA peS; rw [if_neg h, if_neg h]; exact ⟨hr, b01_i e⟩
/-! a season -/
noncomputable def dnV (f : Nat → Int32) : Int := if drF f 5 < 2 then -1 else if drF f 5 = 2 then drF (drS f) 6 else 100 * (drF f 5 - 2) + drF (drS f) 8
noncomputable def dnS (f : Nat → Int32) : Nat → Int32 := if drF f 5 < 2 then drS f else drS (drS f)
theorem dn_1 {f g : Nat → Int32} {a : Int} (e : b01 (g = drS f) = 1) (ha : a = drF f 5) (h : a < 2) : dnV f = -1 ∧ b01 (g = dnS f) = 1 := by
  unfold dnV dnS; rw [if_pos (by omega), if_pos (by omega)]; exact ⟨rfl, e⟩
theorem dn_2 {f g h : Nat → Int32} {a b : Int} (e : b01 (g = drS f) = 1) (e2 : b01 (h = drS g) = 1) (ha : a = drF f 5) (hb : b = drF g 6) (q : a = 2) : b = dnV f ∧ b01 (h = dnS f) = 1 := by
  have e := b01_e e
  have e2 := b01_e e2
  subst e
  have q1 : ¬ drF f 5 < 2 := by omega
  have q2 : drF f 5 = 2 := by omega
  unfold dnV dnS; rw [if_neg q1, if_neg q1, if_pos q2]; exact ⟨hb, b01_i e2⟩
theorem dn_3 {f g h : Nat → Int32} {a b : Int} (e : b01 (g = drS f) = 1) (e2 : b01 (h = drS g) = 1) (ha : a = drF f 5) (hb : b = drF g 8) (q : 2 < a) : 100 * (a - 2) + b = dnV f ∧ b01 (h = dnS f) = 1 := by
  have e := b01_e e
  have e2 := b01_e e2
  subst e
  unfold dnV dnS; rw [if_neg (by omega), if_neg (by omega), if_neg (by omega)]; exact ⟨by rw [ha, hb], b01_i e2⟩
/-- n draws of a season: the row, how many could be -/
noncomputable def seF (f : Nat → Int32) : Nat → (Nat → Int32) × Int
  | 0 => (f, 0)
  | n + 1 => if wnF (dnS (seF f n).1) (dnV (seF f n).1) = 0 then (doS (dnS (seF f n).1) (dnV (seF f n).1), (seF f n).2 + 1) else (dnS (seF f n).1, (seF f n).2)
theorem se_0 (f : Nat → Int32) : b01 (f = (seF f (0 : Int).toNat).1) = 1 ∧ (seF f (0 : Int).toNat).2 = 0 := ⟨b01_i rfl, rfl⟩
theorem seq_y {f g h h' N : Nat → Int32} {x x' v w c : Int} (hg : b01 (g = (seF f x.toNat).1) = 1) (hh : b01 (h = dnS g) = 1) (hv : v = dnV g) (hw : w = wnF h v) (hz : w = 0) (h2 : h' = h) (e : b01 (N = doS h' v) = 1) (hc : c = (seF f x.toNat).2) (q : 0 ≤ x ∧ x' = x + 1) : b01 (N = (seF f x'.toNat).1) = 1 ∧ c + 1 = (seF f x'.toNat).2 := by
  have hg := b01_e hg
  have hh := b01_e hh
  have e := b01_e e
  subst hg
  subst hh
  subst h2
  subst hv
  rw [q.2, show (x + 1).toNat = x.toNat + 1 by omega, seF, if_pos (by rw [← hw]; exact hz)]
  exact ⟨b01_i e, by show c + 1 = _; rw [hc]⟩
theorem seq_n {f g h N : Nat → Int32} {x x' v w c : Int} (hg : b01 (g = (seF f x.toNat).1) = 1) (hh : b01 (h = dnS g) = 1) (hv : v = dnV g) (hw : w = wnF h v) (hz : ¬ w = 0) (e : N = h) (hc : c = (seF f x.toNat).2) (q : 0 ≤ x ∧ x' = x + 1) : b01 (N = (seF f x'.toNat).1) = 1 ∧ c = (seF f x'.toNat).2 := by
  have hg := b01_e hg
  have hh := b01_e hh
  subst hg
  subst hh
  subst e
  subst hv
  rw [q.2, show (x + 1).toNat = x.toNat + 1 by omega, seF, if_neg (by rw [← hw]; exact hz)]
  exact ⟨b01_i rfl, hc⟩
noncomputable def sqA (f : Nat → Int32) (s n : Int) : Int := if 1 ≤ n ∧ n ≤ 40 then (seF (uR f 32 s) n.toNat).2 else -3
noncomputable def sqS (f : Nat → Int32) (s n : Int) : Nat → Int32 := if 1 ≤ n ∧ n ≤ 40 then (if 0 < (seF (uR f 32 s) n.toNat).2 then ntF (seF (uR f 32 s) n.toNat).1 (kpF f) else iaF (seF (uR f 32 s) n.toNat).1 (kpF f) 23) else f
theorem sq_y {f N : Nat → Int32} {s n c : Int} (h : 1 ≤ n ∧ n ≤ 40) (hc : c = (seF (uR f 32 s) n.toNat).2) (h0 : 0 < c) (e : b01 (N = ntF (seF (uR f 32 s) n.toNat).1 (kpF f)) = 1) : c = sqA f s n ∧ b01 (N = sqS f s n) = 1 := by
  unfold sqA sqS; rw [if_pos h, if_pos h, if_pos (by omega)]; exact ⟨hc, e⟩
theorem sq_z {M M1 N : mm_M} {f : Nat → Int32} {s n c : Int} (h : 1 ≤ n ∧ n ≤ 40) (hc : c = (seF (uR f 32 s) n.toNat).2) (h0 : ¬ 0 < c) (e : b01 (N.1 99 = iaF (M.1 99) (M.1 105) (23 : Int).toNat) = 1) (hk : b01 (KPN M1 f 23) = 1) (h5 : M.1 105 = M1.1 105) (ht : b01 (M.1 99 = (seF (uR f 32 s) n.toNat).1) = 1) : c = sqA f s n ∧ b01 (N.1 99 = sqS f s n) = 1 := by
  unfold sqA sqS; rw [if_pos h, if_pos h, if_neg (by omega)]
  refine ⟨hc, b01_i ?_⟩
  rw [b01_e e, b01_e ht]
  funext j
  unfold iaF
  by_cases c : 26 ≤ j ∧ j < 26 + 23
  · rw [if_pos (by omega), if_pos c, h5, b01_e hk (j - 26) (by omega)]; rfl
  · rw [if_neg (by omega), if_neg c]
theorem sq_n {f N : Nat → Int32} {s n : Int} (h : ¬ (1 ≤ n ∧ n ≤ 40)) (e : N = f) : sqA f s n = -3 ∧ b01 (N = sqS f s n) = 1 := by
  unfold sqA sqS; rw [if_neg h, if_neg h]; exact ⟨rfl, b01_i e⟩
theorem FR.cellJ {S : List Nat} {M N : mm_M} (h : FR S M N) {i : Nat} (hi : i ∉ S) : N.2.1 i = M.2.1 i := funext fun k => h.2.2 i k hi
theorem wI_J {M M' : mm_M} {i k : Nat} {v : Int32} (e : M' = wI M i k v) (j : Nat) : M'.2.1 j = M.2.1 j := by rw [e]
theorem tq_c {M N : mm_M} (h1 : N.1 99 = M.1 99) (h2 : N.2.1 117 = M.2.1 117) (h3 : N.1 116 = M.1 116) (t : Int) : tqF N t = tqF M t := by
  unfold tqF
  rw [h1, h3, show tyM N t = tyM M t from by funext i; unfold tyM; rw [h2]]
theorem tlm_c {M B N : mm_M} {t r : Int} (h : b01 (TLM B N t r) = 1) (h1 : B.1 99 = M.1 99) (h2 : B.2.1 117 = M.2.1 117) (h3 : B.1 116 = M.1 116) : N.1 99 = (tqF M t).1 ∧ (N.1 98 18).toInt = (tqF M t).2.1 ∧ r = (tqF M t).2.2 := by
  have := b01_e h
  unfold TLM at this
  rw [tq_c h1 h2 h3] at this
  exact this
/-! images -/
def imS (f : Nat → Int32) (i : Int) : Nat → Int32 := fun j => if (1181 * (i + 1)).toNat ≤ j ∧ j < (1181 * (i + 1)).toNat + 1181 then f (j - (1181 * (i + 1)).toNat) else f j
def reS (f : Nat → Int32) (i : Int) : Nat → Int32 := fun j => if j < 1181 then (if j = 49 then 0 else f ((1181 * (i + 1)).toNat + j)) else f j
def imR (f : Nat → Int32) (i : Int) : Nat → Int32 := fun j => f ((1181 * (i + 1)).toNat + j)
/-! trays of the reference, their numbers -/
def uJ (f : Nat → Int64) (k : Nat) (v : Int) : Nat → Int64 := fun j => if j = k then sJ v else f j
theorem uJ_w {M N : mm_M} {c k : Nat} {v : Int} (e : N = wJ M c k (sJ v)) : N.2.1 c = uJ (M.2.1 c) k v := by
  rw [e]
  funext j
  unfold uJ
  by_cases h : j = k
  · rw [if_pos h, h]; exact u2_s _ _ _ _
  · rw [if_neg h]; exact u2_b _ _ h
def zeJ (f : Nat → Int64) (a n : Nat) : Nat → Int64 := fun j => if a ≤ j ∧ j < a + n then sJ 0 else f j
theorem ze_0 (f : Nat → Int64) (a : Nat) : b01 (f = zeJ f a (0 : Int).toNat) = 1 := b01_i (by funext j; unfold zeJ; rw [if_neg (by omega)])
theorem ze_s {M N : mm_M} {f : Nat → Int64} {a p : Nat} {x x' : Int} (h : b01 (M.2.1 117 = zeJ f a x.toNat) = 1) (e : N = wJ M 117 p (sJ 0)) (q : 0 ≤ x ∧ x' = x + 1 ∧ p = a + x.toNat) : b01 (N.2.1 117 = zeJ f a x'.toNat) = 1 := b01_i (by
  rw [uJ_w e, b01_e h]
  funext j
  unfold uJ zeJ
  by_cases c : j = p
  · rw [if_pos c, if_pos (by omega)]
  · rw [if_neg c]
    by_cases d : a ≤ j ∧ j < a + x.toNat
    · rw [if_pos d, if_pos (by omega)]
    · rw [if_neg d, if_neg (by omega)])
theorem bo_m1s (f : Nat → Int32) (b s : Int) : ∀ n : Nat, -1 ≤ (boS f b s n).1
  | 0 => Int.le_refl _
  | n + 1 => by
    have ih := bo_m1s f b s n
    rw [boS]
    unfold boT
    repeat' split
    all_goals first | exact ih | (show (-1 : Int) ≤ (n : Int); omega)
theorem bo_m1g (f : Nat → Int32) (b s : Int) : -1 ≤ boF f b s := bo_m1s f b s _
/-! THE ENDING: how many visits at the fewest, buyer a away -/
def stE (g : Int → Int) (f : Nat → Int32) (a s b v : Int) : Int := if b = a ∨ boF f b s = -1 ∨ ¬ iiF s (boF f b s) = 0 then v else if g (orI s (pw2 (boF f b s))) + 1 < v then g (orI s (pw2 (boF f b s))) + 1 else v
def edE (g : Int → Int) (f : Nat → Int32) (a s : Int) : Nat → Int
  | 0 => if shF f s = 1 then 0 else 268435456
  | n + 1 => stE g f a s (n : Int) (edE g f a s n)
def edN (f : Nat → Int32) (a : Int) : Nat → Int → Int
  | 0, _ => 268435456
  | n + 1, s => edE (edN f a n) f a s (f 1).toInt.toNat
def edF (f : Nat → Int32) (a s : Int) : Int := edN f a (256 - s).toNat s
theorem edE_c {g h : Int → Int} {f : Nat → Int32} {a s : Int} (H : ∀ k : Int, 0 ≤ k → k ≤ 7 → iiF s k = 0 → g (orI s (pw2 k)) = h (orI s (pw2 k))) (hk : (f 26).toInt ≤ 8) (h0 : 0 ≤ (f 26).toInt) : ∀ n : Nat, edE g f a s n = edE h f a s n
  | 0 => rfl
  | n + 1 => by
    rw [edE, edE, edE_c H hk h0 n]
    unfold stE
    by_cases c : (n : Int) = a ∨ boF f (n : Int) s = -1 ∨ ¬ iiF s (boF f (n : Int) s) = 0
    · rw [if_pos c, if_pos c]
    · rw [if_neg c, if_neg c]
      have l := boF_lt f (n : Int) s h0
      have m : -1 ≤ boF f (n : Int) s := bo_m1g f (n : Int) s
      rw [H (boF f (n : Int) s) (by omega) (by omega) (by omega)]
theorem edN_f {f : Nat → Int32} {a : Int} (hk : (f 26).toInt ≤ 8) (h0 : 0 ≤ (f 26).toInt) : ∀ (m n : Nat) (s : Int), 0 ≤ s → s ≤ 255 → 256 - s ≤ (m : Int) → 256 - s ≤ (n : Int) → edN f a m s = edN f a n s
  | 0, n, s, h1, h2, h3, h4 => by omega
  | m + 1, 0, s, h1, h2, h3, h4 => by omega
  | m + 1, n + 1, s, h1, h2, h3, h4 => by
    rw [edN, edN]
    refine edE_c (fun k q0 q1 q2 => ?_) hk h0 _
    have l := ii_orI (s := s) (k := k) ⟨h1, h2, q0, q1⟩ q2
    have u := or_lt (s := s) (k := k) (K := 8) ⟨h1, by show s < 256; omega, q0, by omega, by omega⟩
    have u2 : orI s (pw2 k) < 256 := u.2
    exact edN_f hk h0 m n _ u.1 (by omega) (by omega) (by omega)
theorem edF_e {f : Nat → Int32} {a s : Int} (hk : 0 ≤ (f 26).toInt ∧ (f 26).toInt ≤ 8) (hs : 0 ≤ s ∧ s ≤ 255) : edF f a s = edE (edF f a) f a s (f 1).toInt.toNat := by
  unfold edF
  rw [show (256 - s).toNat = (255 - s).toNat + 1 by omega, edN]
  refine edE_c (fun k q0 q1 q2 => ?_) hk.2 hk.1 _
  have l := ii_orI (s := s) (k := k) ⟨hs.1, hs.2, q0, q1⟩ q2
  have u := or_lt (s := s) (k := k) (K := 8) ⟨hs.1, by show s < 256; omega, q0, by omega, by omega⟩
  have u2 : orI s (pw2 k) < 256 := u.2
  exact edN_f hk.2 hk.1 _ _ _ u.1 (by omega) (by omega) (by omega)
theorem edN_b {f : Nat → Int32} {a : Int} (hk : (f 26).toInt ≤ 8) (h0 : 0 ≤ (f 26).toInt) : ∀ (m : Nat) (s : Int), 0 ≤ s → s ≤ 255 → edN f a m s = 268435456 ∨ (0 ≤ edN f a m s ∧ edN f a m s ≤ 255 - s)
  | 0, s, _, _ => Or.inl rfl
  | m + 1, s, h1, h2 => by
    rw [edN]
    generalize (f 1).toInt.toNat = n
    induction n with
    | zero =>
      rw [edE]
      split
      · exact Or.inr ⟨by omega, by omega⟩
      · exact Or.inl rfl
    | succ n ih =>
      rw [edE]
      unfold stE
      split
      · exact ih
      · split
        · rename_i c d
          have l' := boF_lt f (n : Int) s h0
          have m' : -1 ≤ boF f (n : Int) s := bo_m1g f (n : Int) s
          have l := ii_orI (s := s) (k := boF f (n : Int) s) ⟨h1, h2, by omega, by omega⟩ (by omega)
          have u := or_lt (s := s) (k := boF f (n : Int) s) (K := 8) ⟨h1, by show s < 256; omega, by omega, by omega, by omega⟩
          have u2 : orI s (pw2 (boF f (n : Int) s)) < 256 := u.2
          have b := edN_b (a := a) hk h0 m (orI s (pw2 (boF f (n : Int) s))) u.1 (by omega)
          omega
        · exact ih
theorem edF_b {f : Nat → Int32} {a s : Int} (hk : 0 ≤ (f 26).toInt ∧ (f 26).toInt ≤ 8) (hs : 0 ≤ s ∧ s ≤ 255) : edF f a s = 268435456 ∨ (0 ≤ edF f a s ∧ edF f a s ≤ 255 - s) := edN_b hk.2 hk.1 _ s hs.1 hs.2
theorem edE_0 (g : Int → Int) (f : Nat → Int32) (a s : Int) : (shF f s = 1 ∧ edE g f a s (0 : Int).toNat = 0) ∨ (¬ shF f s = 1 ∧ edE g f a s (0 : Int).toNat = 268435456) := by
  show (shF f s = 1 ∧ edE g f a s 0 = 0) ∨ (¬ shF f s = 1 ∧ edE g f a s 0 = 268435456)
  rw [edE]
  split
  · exact Or.inl ⟨by assumption, rfl⟩
  · exact Or.inr ⟨by assumption, rfl⟩
theorem edE_s {f : Nat → Int32} {a s b b' v : Int} (g : Int → Int) (hb : 0 ≤ b ∧ b' = b + 1) (hv : v = edE g f a s b.toNat) : ((b = a ∨ boF f b s = -1 ∨ ¬ iiF s (boF f b s) = 0) ∧ edE g f a s b'.toNat = v) ∨ ((¬ b = a ∧ ¬ boF f b s = -1 ∧ iiF s (boF f b s) = 0) ∧ ((g (orI s (pw2 (boF f b s))) + 1 < v ∧ edE g f a s b'.toNat = g (orI s (pw2 (boF f b s))) + 1) ∨ (¬ g (orI s (pw2 (boF f b s))) + 1 < v ∧ edE g f a s b'.toNat = v))) := by
  obtain ⟨h0, rfl⟩ := hb
  rw [show (b + 1).toNat = b.toNat + 1 by omega, edE, ← hv, show ((b.toNat : Nat) : Int) = b by omega]
  unfold stE
  split
  · exact Or.inl ⟨by assumption, rfl⟩
  · rename_i c
    right
    refine ⟨by omega, ?_⟩
    split
    · exact Or.inl ⟨by assumption, rfl⟩
    · exact Or.inr ⟨by assumption, rfl⟩
/-- a valid visit is never more than one step nearer -/
theorem edE_le {g : Int → Int} {f : Nat → Int32} {a s : Int} {b : Nat} (h : ¬ ((b : Int) = a ∨ boF f (b : Int) s = -1 ∨ ¬ iiF s (boF f (b : Int) s) = 0)) : ∀ n : Nat, b < n → edE g f a s n ≤ g (orI s (pw2 (boF f (b : Int) s))) + 1
  | 0, q => by omega
  | n + 1, q => by
    rw [edE]
    by_cases c : b = n
    · subst c
      unfold stE
      rw [if_neg h]
      split <;> omega
    · have ih := edE_le (g := g) h n (by omega)
      unfold stE
      split
      · exact ih
      · split
        · omega
        · exact ih
theorem edE_ex {g : Int → Int} {f : Nat → Int32} {a s : Int} : ∀ n : Nat, edE g f a s n = (if shF f s = 1 then 0 else 268435456) ∨ ∃ b : Nat, b < n ∧ ¬ ((b : Int) = a ∨ boF f (b : Int) s = -1 ∨ ¬ iiF s (boF f (b : Int) s) = 0) ∧ edE g f a s n = g (orI s (pw2 (boF f (b : Int) s))) + 1
  | 0 => Or.inl rfl
  | n + 1 => by
    have ih := edE_ex (g := g) (f := f) (a := a) (s := s) n
    rw [edE]
    have keep : edE g f a s n = (if shF f s = 1 then 0 else 268435456) ∨ ∃ b : Nat, b < n + 1 ∧ ¬ ((b : Int) = a ∨ boF f (b : Int) s = -1 ∨ ¬ iiF s (boF f (b : Int) s) = 0) ∧ edE g f a s n = g (orI s (pw2 (boF f (b : Int) s))) + 1 := by
      rcases ih with q | ⟨b, q1, q2, q3⟩
      · exact Or.inl q
      · exact Or.inr ⟨b, by omega, q2, q3⟩
    unfold stE
    split
    · exact keep
    · rename_i c
      split
      · exact Or.inr ⟨n, by omega, c, rfl⟩
      · exact keep
/-- the ending's length; NONE: there is none -/
def enF (f : Nat → Int32) (a : Int) : Int := if 268435456 ≤ edF f a (f 27).toInt then -1 else edF f a (f 27).toInt
theorem enF_s (f : Nat → Int32) (a : Int) : (268435456 ≤ edF f a (f 27).toInt ∧ enF f a = -1) ∨ (edF f a (f 27).toInt < 268435456 ∧ enF f a = edF f a (f 27).toInt) := by
  unfold enF
  split
  · exact Or.inl ⟨by assumption, rfl⟩
  · exact Or.inr ⟨by omega, rfl⟩
/-! the row of the ending -/
def nbC (f : Nat → Int32) (s v b : Int) : Prop := ¬ boF f b s = -1 ∧ iiF s (boF f b s) = 0 ∧ edF f (-1) (orI s (pw2 (boF f b s))) = v
noncomputable def nbS (f : Nat → Int32) (s v : Int) : Nat → Int → Int
  | 0, b => b
  | n + 1, b => if b01 (nbC f s v b) = 1 then b else nbS f s v n (b + 1)
theorem nbS_s {f : Nat → Int32} {s v b b' : Int} (hb : b < 6 ∧ b' = b + 1) : (nbC f s v b ∧ nbS f s v (6 - b).toNat b = b) ∨ (¬ nbC f s v b ∧ nbS f s v (6 - b).toNat b = nbS f s v (6 - b').toNat b') := by
  obtain ⟨h0, rfl⟩ := hb
  rw [show (6 - b).toNat = (6 - (b + 1)).toNat + 1 by omega, nbS]
  by_cases c : nbC f s v b
  · rw [if_pos (b01_i c)]; exact Or.inl ⟨c, rfl⟩
  · rw [if_neg (fun q => c (b01_e q))]; exact Or.inr ⟨c, rfl⟩
/-- who comes and what is sold by then, of an ending of m visits -/
noncomputable def roS (f : Nat → Int32) (m : Int) : Nat → Int
  | 0 => (f 27).toInt
  | i + 1 => orI (roS f m i) (pw2 (boF f (nbS f (roS f m i) (m - (i : Int) - 1) 6 0) (roS f m i)))
noncomputable def roB (f : Nat → Int32) (m : Int) (i : Nat) : Int := nbS f (roS f m i) (m - (i : Int) - 1) 6 0
theorem ro_s {f : Nat → Int32} {m i i' s b : Int} (hi : 0 ≤ i ∧ i' = i + 1) (hs : s = roS f m i.toNat) (hb : b = nbS f s (m - i - 1) 6 0) : b = roB f m i.toNat ∧ orI s (pw2 (boF f b s)) = roS f m i'.toNat := by
  obtain ⟨h0, rfl⟩ := hi
  subst hs
  subst hb
  rw [show (i + 1).toNat = i.toNat + 1 by omega, roS]
  unfold roB
  rw [show ((i.toNat : Nat) : Int) = i by omega]
  exact ⟨rfl, rfl⟩
/-! the reference's arrays -/
def LBX (M : mm_M) (f : Nat → Int32) (s b : Int) : Prop := ∀ s' b' : Int, 0 ≤ s' → 0 ≤ b' → b' < (f 1).toInt → (s' < s ∨ s' = s ∧ b' < b) → (M.1 106 (6 * s' + b').toNat).toInt = boF f b' s'
def LBF (M : mm_M) (f : Nat → Int32) : Prop := ∀ s' b' : Int, 0 ≤ s' → 0 ≤ b' → b' < (f 1).toInt → s' ≤ evF f → (M.1 106 (6 * s' + b').toNat).toInt = boF f b' s'
theorem lx_0 (M : mm_M) (f : Nat → Int32) : b01 (LBX M f 0 0) = 1 := b01_i (fun s' b' h0 h1 h2 h3 => absurd h3 (by omega))
theorem lx_s {M M' : mm_M} {f : Nat → Int32} {s b v : Int} (e : M' = wI M 106 (6 * s + b).toNat (sI v)) (h : b01 (LBX M f s b) = 1) (q : (-2147483648 ≤ v ∧ v ≤ 2147483647) ∧ v = boF f b s ∧ 0 ≤ s ∧ 0 ≤ b ∧ b < 6 ∧ (f 1).toInt ≤ 6) : b01 (LBX M' f s (b + 1)) = 1 := b01_i (fun s' b' h0 h1 h2 h3 => by
  by_cases c : s' = s ∧ b' = b
  · obtain ⟨rfl, rfl⟩ := c
    rw [wI_at e, sI_t q.1]; exact q.2.1
  · rw [wI_ne e (show (6 * s' + b').toNat ≠ (6 * s + b).toNat by omega)]
    exact b01_e h s' b' h0 h1 h2 (by omega))
theorem lx_n {M : mm_M} {f : Nat → Int32} {s b : Int} (h : b01 (LBX M f s b) = 1) (q : (f 1).toInt ≤ b) : b01 (LBX M f (s + 1) 0) = 1 := b01_i (fun s' b' h0 h1 h2 h3 => b01_e h s' b' h0 h1 h2 (by omega))
theorem lx_e {M : mm_M} {f : Nat → Int32} {s : Int} (h : b01 (LBX M f s 0) = 1) (q : evF f < s) : b01 (LBF M f) = 1 := b01_i (fun s' b' h0 h1 h2 h3 => b01_e h s' b' h0 h1 h2 (by omega))
theorem lx_c {M N : mm_M} {f : Nat → Int32} {s b : Int} (e : N.1 106 = M.1 106) (h : b01 (LBX M f s b) = 1) : b01 (LBX N f s b) = 1 := b01_i (by unfold LBX; rw [e]; exact b01_e h)
theorem lf_c {M N : mm_M} {f : Nat → Int32} (e : N.1 106 = M.1 106) (h : b01 (LBF M f) = 1) : b01 (LBF N f) = 1 := b01_i (by unfold LBF; rw [e]; exact b01_e h)
theorem lf_g {M : mm_M} {f : Nat → Int32} (h : b01 (LBF M f) = 1) {s b : Int} (q : 0 ≤ s ∧ s ≤ evF f ∧ 0 ≤ b ∧ b < (f 1).toInt) : (M.1 106 (6 * s + b).toNat).toInt = boF f b s := b01_e h s b q.1 q.2.2.1 q.2.2.2 q.2.1
def EDQ (M : mm_M) (f : Nat → Int32) (a s : Int) : Prop := ∀ t : Int, s < t → 0 ≤ t → t ≤ evF f → (M.1 107 t.toNat).toInt = edF f a t
theorem dq_0 (M : mm_M) (f : Nat → Int32) (a s : Int) (h : evF f ≤ s) : b01 (EDQ M f a s) = 1 := b01_i (fun t h1 h2 h3 => by omega)
theorem dq_s {M N : mm_M} {f : Nat → Int32} {a s v : Int} (e : N = wI M 107 s.toNat (sI v)) (h : b01 (EDQ M f a s) = 1) (q : (-2147483648 ≤ v ∧ v ≤ 2147483647) ∧ v = edF f a s ∧ 0 ≤ s) : b01 (EDQ N f a (s + (-1))) = 1 := b01_i (fun t h1 h2 h3 => by
  by_cases c : t = s
  · rw [c, wI_at e, sI_t q.1]; exact q.2.1
  · rw [wI_ne e (show t.toNat ≠ s.toNat by omega)]; exact b01_e h t (by omega) h2 h3)
theorem dq_g {M : mm_M} {f : Nat → Int32} {a s : Int} (h : b01 (EDQ M f a s) = 1) (t : Int) (q : s < t ∧ 0 ≤ t ∧ t ≤ evF f) : (M.1 107 t.toNat).toInt = edF f a t := b01_e h t q.1 q.2.1 q.2.2
theorem dq_c {M N : mm_M} {f : Nat → Int32} {a s : Int} (e : N.1 107 = M.1 107) (h : b01 (EDQ M f a s) = 1) : b01 (EDQ N f a s) = 1 := b01_i (by unfold EDQ; rw [e]; exact b01_e h)
/-- a visit leads to a set of the kinds there -/
theorem bo_ev {f : Nat → Int32} {b s : Int} (hk : 0 ≤ (f 26).toInt ∧ (f 26).toInt ≤ 8) (hs : 0 ≤ s ∧ s ≤ evF f) : -1 ≤ boF f b s ∧ boF f b s < (f 26).toInt ∧ (boF f b s = -1 ∨ (0 ≤ orI s (pw2 (boF f b s)) ∧ orI s (pw2 (boF f b s)) ≤ evF f ∧ (¬ iiF s (boF f b s) = 0 ∨ s < orI s (pw2 (boF f b s))))) := by
  have l := boF_lt f b s hk.1
  have m := bo_m1g f b s
  refine ⟨m, l, ?_⟩
  by_cases c : boF f b s = -1
  · exact Or.inl c
  · right
    have e : evF f = pw2 (f 26).toInt - 1 := rfl
    have u := or_lt (s := s) (k := boF f b s) (K := (f 26).toInt) ⟨hs.1, by omega, by omega, l, hk.2⟩
    have p : pw2 (f 26).toInt ≤ 256 := pw2_m (show (f 26).toInt ≤ 8 by omega)
    refine ⟨u.1, by omega, ?_⟩
    by_cases d : iiF s (boF f b s) = 0
    · exact Or.inr (ii_orI ⟨hs.1, by omega, by omega, by omega⟩ d)
    · exact Or.inl d
theorem evF_b {f : Nat → Int32} (hk : 0 ≤ (f 26).toInt ∧ (f 26).toInt ≤ 8) : 0 ≤ evF f ∧ evF f ≤ 255 := by
  have e : evF f = pw2 (f 26).toInt - 1 := rfl
  have p : pw2 (f 26).toInt ≤ 256 := pw2_m (show (f 26).toInt ≤ 8 by omega)
  have := pw2_p (f 26).toInt
  omega
def ERW (M : mm_M) (f : Nat → Int32) (m n : Int) : Prop := ∀ i : Nat, (i : Int) < n → (M.1 108 i).toInt = roB f m i
theorem er_0 (M : mm_M) (f : Nat → Int32) (m : Int) : b01 (ERW M f m 0) = 1 := b01_i (fun i h => by omega)
theorem er_s {M N : mm_M} {f : Nat → Int32} {m n n' v : Int} (h : b01 (ERW M f m n) = 1) (e : N = wI M 108 n.toNat (sI v)) (q : 0 ≤ n ∧ n' = n + 1 ∧ (-2147483648 ≤ v ∧ v ≤ 2147483647) ∧ v = roB f m n.toNat) : b01 (ERW N f m n') = 1 := b01_i (fun i hi => by
  by_cases c : i = n.toNat
  · rw [c, wI_at e, sI_t q.2.2.1]; exact q.2.2.2
  · rw [wI_ne e c]; exact b01_e h i (by omega))
/-- the ending's buyers into a tray -/
noncomputable def lsJ (f : Nat → Int32) (g : Nat → Int64) (a n : Nat) : Nat → Int64 := fun j => if a ≤ j ∧ j < a + n then sJ (roB f (enF f (-1)) (j - a)) else g j
theorem ls_0 (f : Nat → Int32) (g : Nat → Int64) (a : Nat) : b01 (g = lsJ f g a (0 : Int).toNat) = 1 := b01_i (by funext j; unfold lsJ; rw [if_neg (by omega)])
theorem ls_s {M N : mm_M} {f : Nat → Int32} {g : Nat → Int64} {a p : Nat} {x x' v : Int} (h : b01 (M.2.1 117 = lsJ f g a x.toNat) = 1) (e : N = wJ M 117 p (sJ v)) (q : 0 ≤ x ∧ x' = x + 1 ∧ p = a + x.toNat ∧ v = roB f (enF f (-1)) x.toNat) : b01 (N.2.1 117 = lsJ f g a x'.toNat) = 1 := b01_i (by
  rw [uJ_w e, b01_e h]
  funext j
  unfold uJ lsJ
  by_cases c : j = p
  · rw [if_pos c, if_pos (by omega), q.2.2.2, show j - a = x.toNat by omega]
  · rw [if_neg c]
    by_cases d : a ≤ j ∧ j < a + x.toNat
    · rw [if_pos d, if_pos (by omega)]
    · rw [if_neg d, if_neg (by omega)])
/-- lists(): how many, or why not -/
def lsA (no m n : Int) : Int := if no = 0 then (if m = -1 then -5 else if m < n then m else n) else no
theorem lsA_s (no m n : Int) : (¬ no = 0 ∧ lsA no m n = no) ∨ (no = 0 ∧ m = -1 ∧ lsA no m n = -5) ∨ (no = 0 ∧ ¬ m = -1 ∧ m < n ∧ lsA no m n = m) ∨ (no = 0 ∧ ¬ m = -1 ∧ ¬ m < n ∧ lsA no m n = n) := by
  unfold lsA; repeat' split
  all_goals omega
noncomputable def ebA (f : Nat → Int32) (i : Int) : Int := if i < 0 then -3 else if i < enF f (-1) then roB f (enF f (-1)) i.toNat else -1
theorem ebA_s (f : Nat → Int32) (i : Int) : (i < 0 ∧ ebA f i = -3) ∨ (0 ≤ i ∧ i < enF f (-1) ∧ ebA f i = roB f (enF f (-1)) i.toNat) ∨ (0 ≤ i ∧ ¬ i < enF f (-1) ∧ ebA f i = -1) := by
  unfold ebA; repeat' split
  all_goals omega
theorem nbC_s (f : Nat → Int32) (s v b : Int) : nbC f s v b ∨ boF f b s = -1 ∨ ¬ iiF s (boF f b s) = 0 ∨ ¬ edF f (-1) (orI s (pw2 (boF f b s))) = v := by
  unfold nbC
  by_cases h1 : boF f b s = -1
  · exact Or.inr (Or.inl h1)
  by_cases h2 : iiF s (boF f b s) = 0
  · by_cases h3 : edF f (-1) (orI s (pw2 (boF f b s))) = v
    · exact Or.inl ⟨h1, h2, h3⟩
    · exact Or.inr (Or.inr (Or.inr h3))
  · exact Or.inr (Or.inr (Or.inl h2))
theorem nbS_t {f : Nat → Int32} {s v b b' : Int} (hb : b < 6 ∧ b' = b + 1) : ((¬ boF f b s = -1 ∧ iiF s (boF f b s) = 0 ∧ edF f (-1) (orI s (pw2 (boF f b s))) = v) ∧ nbS f s v (6 - b).toNat b = b) ∨ ((boF f b s = -1 ∨ ¬ iiF s (boF f b s) = 0 ∨ ¬ edF f (-1) (orI s (pw2 (boF f b s))) = v) ∧ nbS f s v (6 - b).toNat b = nbS f s v (6 - b').toNat b') := by
  rcases nbS_s (f := f) (s := s) (v := v) hb with q | q
  · exact Or.inl ⟨q.1, q.2⟩
  · refine Or.inr ⟨?_, q.2⟩
    rcases nbC_s f s v b with r | r
    · exact absurd r q.1
    · exact r
/-! rows of the reference that are put back -/
def SMJ (k : Nat) (f g : Nat → Int32) : Prop := ∀ j, j ≠ k → g j = f j
theorem smj_0 {M : mm_M} (k : Nat) {f : Nat → Int32} (h : M.1 99 = f) : b01 (SMJ k f (M.1 99)) = 1 := b01_i (fun j _ => by rw [h])
theorem smj_w {M N : mm_M} {k : Nat} {f : Nat → Int32} {v : Int32} (e : N = wI M 99 k v) (h : b01 (SMJ k f (M.1 99)) = 1) : b01 (SMJ k f (N.1 99)) = 1 := b01_i (fun j hj => (wI_ne e hj).trans (b01_e h j hj))
theorem smj_c {M N : mm_M} {k : Nat} {f : Nat → Int32} (h : b01 (SMJ k f (M.1 99)) = 1) (e : N.1 99 = M.1 99) : b01 (SMJ k f (N.1 99)) = 1 := b01_i (by unfold SMJ; rw [e]; exact b01_e h)
theorem smj_e {M N : mm_M} {k : Nat} {f : Nat → Int32} {v : Int} (e : N = wI M 99 k (sI v)) (h : b01 (SMJ k f (M.1 99)) = 1) (hv : v = (f k).toInt) : b01 (N.1 99 = f) = 1 := b01_i (by
  funext j
  by_cases c : j = k
  · rw [c, wI_at e, hv, sI_o]
  · exact (wI_ne e c).trans (b01_e h j c))
theorem eq9_t {M N : mm_M} {f : Nat → Int32} (h : b01 (M.1 99 = f) = 1) (e : N.1 99 = M.1 99) : b01 (N.1 99 = f) = 1 := b01_i (e.trans (b01_e h))
end
section
/-! further rows: whom the ending needs, what guards it -/
def ndF (f : Nat → Int32) : Nat → Int
  | 0 => 0
  | n + 1 => orI (ndF f n) (if enF f (n : Int) = -1 then pw2 (n : Int) else 0)
theorem nd_s (f : Nat → Int32) {x x' a : Int} (h : 0 ≤ x) (hx : x' = x + 1) (ha : a = ndF f x.toNat) : (enF f x = -1 ∧ ndF f x'.toNat = orI a (pw2 x)) ∨ (¬ enF f x = -1 ∧ ndF f x'.toNat = orI a 0) := by
  subst hx
  subst ha
  rw [show (x + 1).toNat = x.toNat + 1 by omega, ndF, show ((x.toNat : Nat) : Int) = x by omega]
  split
  · exact Or.inl ⟨by assumption, rfl⟩
  · exact Or.inr ⟨by assumption, rfl⟩
def ndA (f : Nat → Int32) : Int := if enF f (-1) = -1 then 0 else ndF f (f 1).toInt.toNat
theorem ndA_s (f : Nat → Int32) : (enF f (-1) = -1 ∧ ndA f = 0) ∨ (¬ enF f (-1) = -1 ∧ ndA f = ndF f (f 1).toInt.toNat) := by
  unfold ndA; split
  · exact Or.inl ⟨by assumption, rfl⟩
  · exact Or.inr ⟨by assumption, rfl⟩
/-- what was hidden, and a kind more -/
def hdS (f : Nat → Int32) (k : Int) : Nat → Int32 := uR f 28 (orI (f 28).toInt (pw2 k))
def guF (f : Nat → Int32) : Nat → Int
  | 0 => 0
  | n + 1 => if iiF (f 28).toInt (n : Int) = 1 then guF f n else orI (guF f n) (if enF (hdS f (n : Int)) (-1) = -1 then pw2 (n : Int) else 0)
theorem gu_s (f : Nat → Int32) {x x' a : Int} (h : 0 ≤ x) (hx : x' = x + 1) (ha : a = guF f x.toNat) : (iiF (f 28).toInt x = 1 ∧ guF f x'.toNat = a) ∨ (¬ iiF (f 28).toInt x = 1 ∧ ((enF (hdS f x) (-1) = -1 ∧ guF f x'.toNat = orI a (pw2 x)) ∨ (¬ enF (hdS f x) (-1) = -1 ∧ guF f x'.toNat = orI a 0))) := by
  subst hx
  subst ha
  rw [show (x + 1).toNat = x.toNat + 1 by omega, guF, show ((x.toNat : Nat) : Int) = x by omega]
  by_cases c : iiF (f 28).toInt x = 1
  · rw [if_pos c]; exact Or.inl ⟨c, rfl⟩
  · rw [if_neg c]
    split
    · exact Or.inr ⟨c, Or.inl ⟨by assumption, rfl⟩⟩
    · exact Or.inr ⟨c, Or.inr ⟨by assumption, rfl⟩⟩
def guA (f : Nat → Int32) : Int := if enF f (-1) = -1 then 0 else guF f (f 26).toInt.toNat
theorem guA_s (f : Nat → Int32) : (enF f (-1) = -1 ∧ guA f = 0) ∨ (¬ enF f (-1) = -1 ∧ guA f = guF f (f 26).toInt.toNat) := by
  unfold guA; split
  · exact Or.inl ⟨by assumption, rfl⟩
  · exact Or.inr ⟨by assumption, rfl⟩
theorem hd_w {M N : mm_M} {f : Nat → Int32} {h k : Int} (e : N = wI M 99 28 (sI (orI h (pw2 k)))) (hj : b01 (SMJ 28 f (M.1 99)) = 1) (hh : h = (f 28).toInt) : N.1 99 = hdS f k := by
  funext j
  unfold hdS uR
  by_cases c : j = 28
  · rw [if_pos c, c, wI_at e, hh]
  · rw [if_neg c, wI_ne e c]; exact b01_e hj j c
/-! further rows: the sets that can come -/
def RXn (f : Nat → Int32) : Nat → Int → Prop
  | 0, s => s = (f 27).toInt
  | n + 1, s => ∃ s0 b : Int, RXn f n s0 ∧ 0 ≤ b ∧ b < (f 1).toInt ∧ ¬ boF f b s0 = -1 ∧ s = orI s0 (pw2 (boF f b s0))
def RX (f : Nat → Int32) (s : Int) : Prop := ∃ n, RXn f n s
theorem rx_t {f : Nat → Int32} {s b : Int} (h : RX f s) (hb : 0 ≤ b ∧ b < (f 1).toInt) (hk : ¬ boF f b s = -1) : RX f (orI s (pw2 (boF f b s))) := by
  obtain ⟨n, h⟩ := h
  exact ⟨n + 1, s, b, h, hb.1, hb.2, hk, rfl⟩
theorem or_geq {s k : Int} (hs : 0 ≤ s ∧ s ≤ 255) (hk : 0 ≤ k ∧ k < 8) : s ≤ orI s (pw2 k) := by
  have w := pw2_p k
  have m : pw2 k ≤ 256 := pw2_m (b := 8) (by omega)
  have t := sb_orl (x := sI s) (y := sI (pw2 k)) (by rw [sI_t (by omega)]; omega) (by rw [sI_t (by omega)]; omega)
  rw [sI_t (by omega)] at t
  exact t.1
/-- ranges of a row -/
def RNS (f : Nat → Int32) : Prop := (0 ≤ (f 26).toInt ∧ (f 26).toInt ≤ 8) ∧ (0 ≤ (f 27).toInt ∧ (f 27).toInt ≤ evF f) ∧ 0 ≤ (f 1).toInt ∧ (f 1).toInt ≤ 6
theorem rxn_b {f : Nat → Int32} (r : RNS f) : ∀ (n : Nat) (s : Int), RXn f n s → (f 27).toInt ≤ s ∧ s ≤ evF f
  | 0, s, h => by
    have h : s = (f 27).toInt := h
    have := r.2.1
    omega
  | n + 1, s, h => by
    obtain ⟨s0, b, h0, b0, b1, hk, e⟩ := h
    have ih := rxn_b r n s0 h0
    have z := r.2.1
    have v := bo_ev (f := f) (b := b) (s := s0) r.1 (by omega)
    have ev := evF_b r.1
    have k8 := r.1
    have g := or_geq (s := s0) (k := boF f b s0) (by omega) (by omega)
    omega
theorem rx_r {f : Nat → Int32} (r : RNS f) {s : Int} (h : RX f s) : ((f 27).toInt ≤ s ∧ s ≤ evF f) ∧ 0 ≤ s ∧ s ≤ 255 := by
  obtain ⟨n, h⟩ := h
  have a := rxn_b r n s h
  have ev := evF_b r.1
  have z := r.2.1
  omega
noncomputable def rxI (f : Nat → Int32) (s : Int) : Int := @ite Int (RX f s) (Classical.propDecidable _) 1 0
theorem rxI_1 {f : Nat → Int32} {s : Int} (h : RX f s) : rxI f s = 1 := if_pos h
theorem rxI_0 {f : Nat → Int32} {s : Int} (h : ¬ RX f s) : rxI f s = 0 := if_neg h
theorem rxI_s (f : Nat → Int32) (s : Int) : (RX f s ∧ rxI f s = 1) ∨ (¬ RX f s ∧ rxI f s = 0) := by
  by_cases h : RX f s
  · exact Or.inl ⟨h, rxI_1 h⟩
  · exact Or.inr ⟨h, rxI_0 h⟩
theorem rxI_o (f : Nat → Int32) (s : Int) : rxI f s = 1 ∨ rxI f s = 0 := by
  rcases rxI_s f s with h | h
  · exact Or.inl h.2
  · exact Or.inr h.2
/-- all of them together -/
noncomputable def scF (f : Nat → Int32) : Nat → Int
  | 0 => 0
  | n + 1 => orI (scF f n) (if rxI f (n : Int) = 1 then (n : Int) else 0)
theorem sc_s (f : Nat → Int32) {x x' a : Int} (h : 0 ≤ x) (hx : x' = x + 1) (ha : a = scF f x.toNat) : (rxI f x = 1 ∧ scF f x'.toNat = orI a x) ∨ (rxI f x = 0 ∧ scF f x'.toNat = orI a 0) := by
  subst hx
  subst ha
  rw [show (x + 1).toNat = x.toNat + 1 by omega, scF, show ((x.toNat : Nat) : Int) = x by omega]
  rcases rxI_o f x with q | q
  · rw [if_pos q]; exact Or.inl ⟨q, rfl⟩
  · rw [if_neg (by omega)]; exact Or.inr ⟨q, rfl⟩
theorem or_255x {a b : Int} (ha : 0 ≤ a ∧ a ≤ 255) (hb : 0 ≤ b ∧ b ≤ 255) : 0 ≤ orI a b ∧ orI a b ≤ 255 := by
  have h := sb_or (x := sI a) (y := sI b) 8 (by decide) (by rw [sI_t (by omega)]; omega) (by rw [sI_t (by omega)]; omega)
  exact ⟨h.1, by have := h.2; show (sI a ||| sI b).toInt ≤ 255; omega⟩
theorem or_00 : orI 0 0 = 0 := by decide
theorem or_0x {a : Int} (h : 0 ≤ a ∧ a ≤ 255) : orI a 0 = a := by
  unfold orI
  rw [show sI 0 = (0 : Int32) by rfl, Int32.or_zero, sI_t (by omega)]
theorem sc_b (f : Nat → Int32) (r : RNS f) : ∀ n : Nat, 0 ≤ scF f n ∧ scF f n ≤ 255
  | 0 => by rw [scF]; decide
  | n + 1 => by
    have ih := sc_b f r n
    rw [scF]
    by_cases c : rxI f (n : Int) = 1
    · rw [if_pos c]
      rcases rxI_s f (n : Int) with q | q
      · exact or_255x ih (rx_r r q.1).2
      · omega
    · rw [if_neg c]; exact or_255x ih (by decide)
/-- below the least, above the greatest nothing comes -/
theorem sc_lo {f : Nat → Int32} (r : RNS f) : ∀ n : Nat, (n : Int) ≤ (f 27).toInt → scF f n = 0
  | 0, _ => rfl
  | n + 1, h => by
    rw [scF, sc_lo r n (by omega), if_neg ?_]
    · exact or_00
    · intro q
      rcases rxI_s f (n : Int) with z | z
      · have := (rx_r r z.1).1; omega
      · omega
theorem sc_hi {f : Nat → Int32} (r : RNS f) (m : Nat) (hm : evF f + 1 ≤ (m : Int)) : ∀ k : Nat, scF f (m + k) = scF f m
  | 0 => rfl
  | k + 1 => by
    have b := sc_b f r m
    rw [show m + (k + 1) = (m + k) + 1 by omega, scF, sc_hi r m hm k, if_neg ?_]
    · exact or_0x b
    · intro q
      rcases rxI_s f ((m + k : Nat) : Int) with z | z
      · have := (rx_r r z.1).1; omega
      · omega
noncomputable def svA (f : Nat → Int32) : Int := scF f 256
theorem sv_e {f : Nat → Int32} (r : RNS f) {x : Int} (hx : evF f + 1 ≤ x ∧ x ≤ 256) : scF f x.toNat = svA f := by
  have ev := evF_b r.1
  have z := sc_hi r x.toNat (by omega) (256 - x.toNat)
  rw [show x.toNat + (256 - x.toNat) = 256 by omega] at z
  exact z.symm
/-- the kinds left alone -/
noncomputable def laF (f : Nat → Int32) : Nat → Int
  | 0 => 0
  | n + 1 => if rxI f (n : Int) = 1 ∧ bsF (andI (snF f) (-1 - (n : Int))) (8 : Int).toNat = 1 then orI (laF f n) (andI (snF f) (-1 - (n : Int))) else laF f n
theorem la_s (f : Nat → Int32) {x x' a : Int} (h : 0 ≤ x) (hx : x' = x + 1) (ha : a = laF f x.toNat) : ((rxI f x = 1 ∧ bsF (andI (snF f) (-1 - x)) (8 : Int).toNat = 1) ∧ laF f x'.toNat = orI a (andI (snF f) (-1 - x))) ∨ ((rxI f x = 0 ∨ ¬ bsF (andI (snF f) (-1 - x)) (8 : Int).toNat = 1) ∧ laF f x'.toNat = a) := by
  subst hx
  subst ha
  rw [show (x + 1).toNat = x.toNat + 1 by omega, laF, show ((x.toNat : Nat) : Int) = x by omega]
  rcases rxI_o f x with q | q
  · by_cases c : bsF (andI (snF f) (-1 - x)) (8 : Int).toNat = 1
    · rw [if_pos ⟨q, c⟩]; exact Or.inl ⟨⟨q, c⟩, rfl⟩
    · rw [if_neg (fun z => c z.2)]; exact Or.inr ⟨Or.inr c, rfl⟩
  · rw [if_neg (fun z => by omega)]; exact Or.inr ⟨Or.inl q, rfl⟩
noncomputable def laA (f : Nat → Int32) : Int := laF f (evF f + 1).toNat
theorem la_lo {f : Nat → Int32} (r : RNS f) : ∀ n : Nat, (n : Int) ≤ (f 27).toInt → laF f n = 0
  | 0, _ => rfl
  | n + 1, h => by
    rw [laF, la_lo r n (by omega), if_neg ?_]
    intro q
    rcases rxI_s f (n : Int) with z | z
    · have := (rx_r r z.1).1; omega
    · omega
/-! what comes, laid: the reference -/
def C0X (M : mm_M) (f : Nat → Int32) (x : Int) : Prop := ∀ k : Int, 0 ≤ k → k < x → (M.1 109 k.toNat).toInt = if k = (f 27).toInt then 1 else 0
theorem c0_0 (M : mm_M) (f : Nat → Int32) : b01 (C0X M f 0) = 1 := b01_i (fun k h0 h1 => by omega)
theorem c0_s {M N : mm_M} {f : Nat → Int32} {x x' v : Int} (e : N = wI M 109 x.toNat (sI v)) (h : b01 (C0X M f x) = 1) (q : 0 ≤ x ∧ x' = x + 1) (hv : (x = (f 27).toInt ∧ v = 1) ∨ (¬ x = (f 27).toInt ∧ v = 0)) : b01 (C0X N f x') = 1 := b01_i (fun k h0 h1 => by
  by_cases c : k = x
  · rw [c, wI_at e]
    rcases hv with ⟨a, b⟩ | ⟨a, b⟩
    · rw [if_pos a, b]; rfl
    · rw [if_neg a, b]; rfl
  · rw [wI_ne e (show k.toNat ≠ x.toNat by omega)]
    exact b01_e h k h0 (by omega))
def CMX (M : mm_M) (f : Nat → Int32) (t b : Int) : Prop := (M.1 109 (f 27).toInt.toNat).toInt = 1 ∧ (∀ s : Int, 0 ≤ s → s ≤ 255 → (M.1 109 s.toNat).toInt = 1 → RX f s) ∧ ∀ s b' : Int, 0 ≤ s → (s < t ∨ (s = t ∧ b' < b)) → s ≤ evF f → (M.1 109 s.toNat).toInt = 1 → 0 ≤ b' → b' < (f 1).toInt → boF f b' s = -1 ∨ (M.1 109 (orI s (pw2 (boF f b' s))).toNat).toInt = 1
theorem cm_0 {M : mm_M} {f : Nat → Int32} (r : RNS f) (h : b01 (C0X M f 256) = 1) : b01 (CMX M f 0 0) = 1 := b01_i (by
  have h := b01_e h
  have ev := evF_b r.1
  have z := r.2.1
  refine ⟨?_, fun s s0 s1 hs => ?_, fun s b' s0 hs => by omega⟩
  · rw [h (f 27).toInt z.1 (by omega), if_pos rfl]
  · rw [h s s0 (by omega)] at hs
    by_cases c : s = (f 27).toInt
    · exact ⟨0, c⟩
    · rw [if_neg c] at hs; omega)
theorem cm_w {M N : mm_M} {f : Nat → Int32} {t b : Int} (r : RNS f) (e : N = wI M 109 (orI t (pw2 (boF f b t))).toNat (sI 1)) (h : b01 (CMX M f t b) = 1) (h1 : (M.1 109 t.toNat).toInt = 1) (q : 0 ≤ t ∧ t ≤ evF f ∧ 0 ≤ b ∧ b < (f 1).toInt) (hk : ¬ boF f b t = -1) : b01 (CMX N f t (b + 1)) = 1 := b01_i (by
  obtain ⟨h0, h2, h3⟩ := b01_e h
  have ev := evF_b r.1
  have k8 := r.1
  have v := bo_ev (f := f) (b := b) (s := t) r.1 (by omega)
  have g := or_geq (s := t) (k := boF f b t) (by omega) (by omega)
  have up : ∀ k : Nat, (M.1 109 k).toInt = 1 → (N.1 109 k).toInt = 1 := fun k hk => by
    by_cases c : k = (orI t (pw2 (boF f b t))).toNat
    · rw [c, wI_at e]; rfl
    · rw [wI_ne e c]; exact hk
  have dn : ∀ s : Int, 0 ≤ s → (N.1 109 s.toNat).toInt = 1 → s = orI t (pw2 (boF f b t)) ∨ (M.1 109 s.toNat).toInt = 1 := fun s s0 hs => by
    by_cases c : s = orI t (pw2 (boF f b t))
    · exact Or.inl c
    · rw [wI_ne e (show s.toNat ≠ (orI t (pw2 (boF f b t))).toNat by omega)] at hs; exact Or.inr hs
  refine ⟨up _ h0, fun s s0 s1 hs => ?_, fun s b' s0 hs s1 hn b0 b1 => ?_⟩
  · rcases dn s s0 hs with z | z
    · rw [z]; exact rx_t (h2 t q.1 (by omega) h1) q.2.2 hk
    · exact h2 s s0 s1 z
  · have ms : (M.1 109 s.toNat).toInt = 1 := by
      rcases dn s s0 hn with z | z
      · rw [show s = t by omega]; exact h1
      · exact z
    by_cases c : s = t ∧ b' = b
    · rw [c.1, c.2]; right; rw [wI_at e]; rfl
    · rcases h3 s b' s0 (by omega) s1 ms b0 b1 with z | z
      · exact Or.inl z
      · exact Or.inr (up _ z))
theorem cm_n {M : mm_M} {f : Nat → Int32} {t b : Int} (h : b01 (CMX M f t b) = 1) (hk : boF f b t = -1) : b01 (CMX M f t (b + 1)) = 1 := b01_i (by
  obtain ⟨h0, h2, h3⟩ := b01_e h
  refine ⟨h0, h2, fun s b' s0 hs s1 hn b0 b1 => ?_⟩
  by_cases c : s = t ∧ b' = b
  · rw [c.1, c.2]; exact Or.inl hk
  · exact h3 s b' s0 (by omega) s1 hn b0 b1)
theorem cm_t {M : mm_M} {f : Nat → Int32} {t b t' : Int} (h : b01 (CMX M f t b) = 1) (e : b = (f 1).toInt ∨ ¬ (M.1 109 t.toNat).toInt = 1) (ht : t' = t + 1) : b01 (CMX M f t' 0) = 1 := b01_i (by
  obtain ⟨h0, h2, h3⟩ := b01_e h
  refine ⟨h0, h2, fun s b' s0 hs s1 hn b0 b1 => ?_⟩
  by_cases c : s = t
  · rcases e with e | e
    · exact h3 s b' s0 (by omega) s1 hn b0 b1
    · rw [c] at hn; exact absurd hn e
  · exact h3 s b' s0 (by omega) s1 hn b0 b1)
def CME (M : mm_M) (f : Nat → Int32) : Prop := ∀ s : Int, 0 ≤ s → s ≤ 255 → (M.1 109 s.toNat).toInt = rxI f s
theorem cm_e {M : mm_M} {f : Nat → Int32} {t : Int} (r : RNS f) (h : b01 (CMX M f t 0) = 1) (ht : evF f < t) (hb : ∀ s : Int, 0 ≤ s → s ≤ 255 → (M.1 109 s.toNat).toInt = 0 ∨ (M.1 109 s.toNat).toInt = 1) : b01 (CME M f) = 1 := b01_i (fun s s0 s1 => by
  obtain ⟨h0, h2, h3⟩ := b01_e h
  have a : ∀ (n : Nat) (s : Int), RXn f n s → (M.1 109 s.toNat).toInt = 1 := fun n => by
    induction n with
    | zero => intro s h; rw [show s = (f 27).toInt from h]; exact h0
    | succ n ih =>
      intro s h
      obtain ⟨x, b, hx, b0, b1, hk, e⟩ := h
      have w := rx_r r ⟨n, hx⟩
      rw [e]
      exact (h3 x b w.2.1 (by omega) w.1.2 (ih x hx) b0 b1).resolve_left hk
  rcases rxI_s f s with ⟨p, q⟩ | ⟨p, q⟩
  · obtain ⟨n, p⟩ := p
    rw [q]; exact a n s p
  · rw [q]
    rcases hb s s0 s1 with z | z
    · exact z
    · exact absurd (h2 s s0 s1 z) p)
theorem cme_c {M N : mm_M} {f : Nat → Int32} (e : N.1 109 = M.1 109) (h : b01 (CME M f) = 1) : b01 (CME N f) = 1 := b01_i (by unfold CME; rw [e]; exact b01_e h)
theorem cmx_c {M N : mm_M} {f : Nat → Int32} {t b : Int} (e : N.1 109 = M.1 109) (h : b01 (CMX M f t b) = 1) : b01 (CMX N f t b) = 1 := b01_i (by unfold CMX; rw [e]; exact b01_e h)
theorem c0x_c {M N : mm_M} {f : Nat → Int32} {t : Int} (e : N.1 109 = M.1 109) (h : b01 (C0X M f t) = 1) : b01 (C0X N f t) = 1 := b01_i (by unfold C0X; rw [e]; exact b01_e h)
theorem cme_g {M : mm_M} {f : Nat → Int32} (h : b01 (CME M f) = 1) {s : Int} (q : 0 ≤ s ∧ s ≤ 255) : (M.1 109 s.toNat).toInt = rxI f s := b01_e h s q.1 q.2
theorem rns_i {M : mm_M} (h : INV0 M) (hp : b01 (PI M) = 1) : RNS (M.1 99) := by
  have a := h.rd (i := 99) (c := 45) (k := 26) rfl (show s_b 45 26 = (0, 8) from rfl)
  have b := h.rd (i := 99) (c := 45) (k := 1) rfl (show s_b 45 1 = (0, 6) from rfl)
  have c := h.rd (i := 99) (c := 45) (k := 27) rfl (show s_b 45 27 = (0, 255) from rfl)
  have p : (M.1 99 27).toInt < pw2 (M.1 99 26).toInt := b01_e hp 99 26 rfl
  refine ⟨a, ⟨c.1, ?_⟩, b⟩
  unfold evF
  omega
theorem b109 {M : mm_M} (h : INV0 M) : ∀ s : Int, 0 ≤ s → s ≤ 255 → (M.1 109 s.toNat).toInt = 0 ∨ (M.1 109 s.toNat).toInt = 1 := fun s _ _ => by
  have := h.rd (i := 109) (c := 55) (k := s.toNat) rfl (show s_b 55 s.toNat = (0, 1) from rfl)
  omega
end
section
theorem iX12_feed_X12 : ∀ w ∈ wsX120, w ∈ wsX12_feed := fun w h => List.mem_cons_of_mem _ (List.mem_append_left _ (List.mem_append_right _ h))
theorem qX12_feed_1 : jj_P wsX12_feed RX12 1 11 0 (.int) := ⟨_, _, _, tyX12, rfl, by decide, iX12_feed_X12, (show Cond.fieldLink RX12 1 (TX12 0).1 (TX12 0).2.1 (TX12 0).2.2.1 ∈ wsX12_feed from List.mem_of_getElem? (i := 1) rfl), tyX12_ok, nmX12, rfl, by decide +kernel⟩
theorem sb_11_0 : s_b 11 0 = ((-2147483648), 2147483647) := rfl
theorem ft_11_0 : (mm_ft 11)[0]? = some 0 := rfl
theorem fX12_feed_80 : jj_F wsX12_feed RX12 80 11 5 := ⟨_, _, _, rfl, by decide, iX12_feed_X12, (show Cond.fieldLink RX12 80 (TX12 5).1 (TX12 5).2.1 (TX12 5).2.2.1 ∈ wsX12_feed from List.mem_of_getElem? (i := 2) rfl)⟩
theorem sb_11_5 : s_b 11 5 = (0, 900) := rfl
theorem ft_11_5 : (mm_ft 11)[5]? = some 0 := rfl
theorem fX12_feed_21 : jj_F wsX12_feed RX12 21 11 3 := ⟨_, _, _, rfl, by decide, iX12_feed_X12, (show Cond.fieldLink RX12 21 (TX12 3).1 (TX12 3).2.1 (TX12 3).2.2.1 ∈ wsX12_feed from List.mem_of_getElem? (i := 3) rfl)⟩
theorem ft_11_3 : (mm_ft 11)[3]? = some 2 := rfl
theorem sm_11_3 : s_m 11 3 = 0 := rfl
theorem ak_47 : s_ak 47 = 100 := rfl
theorem an_47 : s_an 47 = 900 := rfl
theorem sb_47 (k : Nat) : s_b 47 k = (0, 255) := rfl
theorem qX12_feed_80 : jj_P wsX12_feed RX12 80 11 5 (.int) := ⟨_, _, _, tyX12, rfl, by decide, iX12_feed_X12, (show Cond.fieldLink RX12 80 (TX12 5).1 (TX12 5).2.1 (TX12 5).2.2.1 ∈ wsX12_feed from List.mem_of_getElem? (i := 2) rfl), tyX12_ok, nmX12, rfl, by decide +kernel⟩
theorem iX12_fault_X12 : ∀ w ∈ wsX120, w ∈ wsX12_fault := fun w h => List.mem_cons_of_mem _ (List.mem_append_left _ (List.mem_append_right _ h))
theorem qX12_fault_1 : jj_P wsX12_fault RX12 1 11 0 (.int) := ⟨_, _, _, tyX12, rfl, by decide, iX12_fault_X12, (show Cond.fieldLink RX12 1 (TX12 0).1 (TX12 0).2.1 (TX12 0).2.2.1 ∈ wsX12_fault from List.mem_of_getElem? (i := 1) rfl), tyX12_ok, nmX12, rfl, by decide +kernel⟩
theorem fX12_fault_27 : jj_F wsX12_fault RX12 27 11 14 := ⟨_, _, _, rfl, by decide, iX12_fault_X12, (show Cond.fieldLink RX12 27 (TX12 14).1 (TX12 14).2.1 (TX12 14).2.2.1 ∈ wsX12_fault from List.mem_of_getElem? (i := 3) rfl)⟩
theorem sb_11_14 : s_b 11 14 = ((-2147483648), 2147483647) := rfl
theorem ft_11_14 : (mm_ft 11)[14]? = some 0 := rfl
theorem fX12_fault_201 : jj_F wsX12_fault RX12 201 11 13 := ⟨_, _, _, rfl, by decide, iX12_fault_X12, (show Cond.fieldLink RX12 201 (TX12 13).1 (TX12 13).2.1 (TX12 13).2.2.1 ∈ wsX12_fault from List.mem_of_getElem? (i := 2) rfl)⟩
theorem sb_11_13 : s_b 11 13 = ((-2147483648), 2147483647) := rfl
theorem ft_11_13 : (mm_ft 11)[13]? = some 0 := rfl
theorem iX12_kind_X12 : ∀ w ∈ wsX120, w ∈ wsX12_kind := fun w h => List.mem_cons_of_mem _ (List.mem_append_left _ (List.mem_append_right _ h))
theorem qX12_kind_1 : jj_P wsX12_kind RX12 1 11 0 (.int) := ⟨_, _, _, tyX12, rfl, by decide, iX12_kind_X12, (show Cond.fieldLink RX12 1 (TX12 0).1 (TX12 0).2.1 (TX12 0).2.2.1 ∈ wsX12_kind from List.mem_of_getElem? (i := 1) rfl), tyX12_ok, nmX12, rfl, by decide +kernel⟩
theorem iX12_isKind_X12 : ∀ w ∈ wsX120, w ∈ wsX12_isKind := fun w h => List.mem_cons_of_mem _ (List.mem_append_left _ (List.mem_append_right _ h))
theorem fX12_isKind_13 : jj_F wsX12_isKind RX12 13 11 1 := ⟨_, _, _, rfl, by decide, iX12_isKind_X12, (show Cond.fieldLink RX12 13 (TX12 1).1 (TX12 1).2.1 (TX12 1).2.2.1 ∈ wsX12_isKind from List.mem_of_getElem? (i := 1) rfl)⟩
theorem ft_11_1 : (mm_ft 11)[1]? = some 2 := rfl
theorem sm_11_1 : s_m 11 1 = 0 := rfl
theorem ak_45 : s_ak 45 = 100 := rfl
theorem an_45 : s_an 45 = 3543 := rfl
theorem hr_45_26_26 : ∀ k, k < 27 → 26 ≤ k → 0 ≤ (s_b 45 k).1 ∧ (s_b 45 k).2 ≤ 8 := by decide +kernel
theorem hdX12_withins : yX12_within.cls ≠ "java/lang/invoke/MethodHandle" ∧ yX12_within.cls ≠ "java/lang/invoke/VarHandle" ∧ (parseMethodDescriptor yX12_within.desc).map (fun d => d.parameters.length) = some 3 := by decide +kernel
theorem hdX12_isKind : yX12_isKind.cls = RX12 ∧ yX12_isKind.cls ≠ "java/lang/invoke/MethodHandle" ∧ yX12_isKind.cls ≠ "java/lang/invoke/VarHandle" ∧ (parseMethodDescriptor yX12_isKind.desc).map (fun d => d.parameters.length) = some 1 := by decide +kernel
theorem fX12_kind_13 : jj_F wsX12_kind RX12 13 11 1 := ⟨_, _, _, rfl, by decide, iX12_kind_X12, (show Cond.fieldLink RX12 13 (TX12 1).1 (TX12 1).2.1 (TX12 1).2.2.1 ∈ wsX12_kind from List.mem_of_getElem? (i := 2) rfl)⟩
theorem hr_45_27_27 : ∀ k, k < 28 → 27 ≤ k → 0 ≤ (s_b 45 k).1 ∧ (s_b 45 k).2 ≤ 255 := by decide +kernel
theorem hr_45_28_28 : ∀ k, k < 29 → 28 ≤ k → 0 ≤ (s_b 45 k).1 ∧ (s_b 45 k).2 ≤ 255 := by decide +kernel
theorem iX12_whoBuys_X12 : ∀ w ∈ wsX120, w ∈ wsX12_whoBuys := fun w h => List.mem_cons_of_mem _ (List.mem_append_left _ (List.mem_append_right _ h))
theorem fX12_whoBuys_13 : jj_F wsX12_whoBuys RX12 13 11 1 := ⟨_, _, _, rfl, by decide, iX12_whoBuys_X12, (show Cond.fieldLink RX12 13 (TX12 1).1 (TX12 1).2.1 (TX12 1).2.2.1 ∈ wsX12_whoBuys from List.mem_of_getElem? (i := 1) rfl)⟩
theorem hr_45_1_1 : ∀ k, k < 2 → 1 ≤ k → 0 ≤ (s_b 45 k).1 ∧ (s_b 45 k).2 ≤ 6 := by decide +kernel
theorem iX12_buysNow_X12 : ∀ w ∈ wsX120, w ∈ wsX12_buysNow := fun w h => List.mem_cons_of_mem _ (List.mem_append_left _ (List.mem_append_right _ h))
theorem fX12_buysNow_13 : jj_F wsX12_buysNow RX12 13 11 1 := ⟨_, _, _, rfl, by decide, iX12_buysNow_X12, (show Cond.fieldLink RX12 13 (TX12 1).1 (TX12 1).2.1 (TX12 1).2.2.1 ∈ wsX12_buysNow from List.mem_of_getElem? (i := 1) rfl)⟩
theorem iX12_buysOf_X12 : ∀ w ∈ wsX120, w ∈ wsX12_buysOf := fun w h => List.mem_cons_of_mem _ (List.mem_append_left _ (List.mem_append_right _ h))
theorem fX12_buysOf_13 : jj_F wsX12_buysOf RX12 13 11 1 := ⟨_, _, _, rfl, by decide, iX12_buysOf_X12, (show Cond.fieldLink RX12 13 (TX12 1).1 (TX12 1).2.1 (TX12 1).2.2.1 ∈ wsX12_buysOf from List.mem_of_getElem? (i := 1) rfl)⟩
theorem iX12_everyKind_X12 : ∀ w ∈ wsX120, w ∈ wsX12_everyKind := fun w h => List.mem_cons_of_mem _ (List.mem_append_left _ (List.mem_append_right _ h))
theorem fX12_everyKind_13 : jj_F wsX12_everyKind RX12 13 11 1 := ⟨_, _, _, rfl, by decide, iX12_everyKind_X12, (show Cond.fieldLink RX12 13 (TX12 1).1 (TX12 1).2.1 (TX12 1).2.2.1 ∈ wsX12_everyKind from List.mem_of_getElem? (i := 1) rfl)⟩
theorem hdX12_everyKind : yX12_everyKind.cls = RX12 ∧ yX12_everyKind.cls ≠ "java/lang/invoke/MethodHandle" ∧ yX12_everyKind.cls ≠ "java/lang/invoke/VarHandle" ∧ (parseMethodDescriptor yX12_everyKind.desc).map (fun d => d.parameters.length) = some 0 := by decide +kernel
theorem iX12_shown_X12 : ∀ w ∈ wsX120, w ∈ wsX12_shown := fun w h => List.mem_cons_of_mem _ (List.mem_append_left _ (List.mem_append_right _ h))
theorem fX12_shown_13 : jj_F wsX12_shown RX12 13 11 1 := ⟨_, _, _, rfl, by decide, iX12_shown_X12, (show Cond.fieldLink RX12 13 (TX12 1).1 (TX12 1).2.1 (TX12 1).2.2.1 ∈ wsX12_shown from List.mem_of_getElem? (i := 1) rfl)⟩
theorem hdX12_shown : yX12_shown.cls = RX12 ∧ yX12_shown.cls ≠ "java/lang/invoke/MethodHandle" ∧ yX12_shown.cls ≠ "java/lang/invoke/VarHandle" ∧ (parseMethodDescriptor yX12_shown.desc).map (fun d => d.parameters.length) = some 0 := by decide +kernel
theorem hdX12_isShutBy : yX12_isShutBy.cls = RX12 ∧ yX12_isShutBy.cls ≠ "java/lang/invoke/MethodHandle" ∧ yX12_isShutBy.cls ≠ "java/lang/invoke/VarHandle" ∧ (parseMethodDescriptor yX12_isShutBy.desc).map (fun d => d.parameters.length) = some 1 := by decide +kernel
theorem iX12_mayBuy_X12 : ∀ w ∈ wsX120, w ∈ wsX12_mayBuy := fun w h => List.mem_cons_of_mem _ (List.mem_append_left _ (List.mem_append_right _ h))
theorem fX12_mayBuy_13 : jj_F wsX12_mayBuy RX12 13 11 1 := ⟨_, _, _, rfl, by decide, iX12_mayBuy_X12, (show Cond.fieldLink RX12 13 (TX12 1).1 (TX12 1).2.1 (TX12 1).2.2.1 ∈ wsX12_mayBuy from List.mem_of_getElem? (i := 1) rfl)⟩
theorem hdX12_isIns : yX12_isIn.cls ≠ "java/lang/invoke/MethodHandle" ∧ yX12_isIn.cls ≠ "java/lang/invoke/VarHandle" ∧ (parseMethodDescriptor yX12_isIn.desc).map (fun d => d.parameters.length) = some 2 := by decide +kernel
theorem iX12_reckons_X12 : ∀ w ∈ wsX120, w ∈ wsX12_reckons := fun w h => List.mem_cons_of_mem _ (List.mem_append_left _ (List.mem_append_right _ h))
theorem fX12_reckons_33 : jj_F wsX12_reckons RX12 33 11 16 := ⟨_, _, _, rfl, by decide, iX12_reckons_X12, (show Cond.fieldLink RX12 33 (TX12 16).1 (TX12 16).2.1 (TX12 16).2.2.1 ∈ wsX12_reckons from List.mem_of_getElem? (i := 1) rfl)⟩
theorem ft_11_16 : (mm_ft 11)[16]? = some 2 := rfl
theorem sm_11_16 : s_m 11 16 = 0 := rfl
theorem ak_50 : s_ak 50 = 100 := rfl
theorem an_50 : s_an 50 = 8 := rfl
theorem sb_50 (k : Nat) : s_b 50 k = ((-2147483648), 2147483647) := rfl
theorem fX12_reckons_13 : jj_F wsX12_reckons RX12 13 11 1 := ⟨_, _, _, rfl, by decide, iX12_reckons_X12, (show Cond.fieldLink RX12 13 (TX12 1).1 (TX12 1).2.1 (TX12 1).2.2.1 ∈ wsX12_reckons from List.mem_of_getElem? (i := 2) rfl)⟩
theorem hdX12_bitsOfs : yX12_bitsOf.cls ≠ "java/lang/invoke/MethodHandle" ∧ yX12_bitsOf.cls ≠ "java/lang/invoke/VarHandle" ∧ (parseMethodDescriptor yX12_bitsOf.desc).map (fun d => d.parameters.length) = some 1 := by decide +kernel
theorem hr_45_7_7 : ∀ k, k < 8 → 7 ≤ k → 0 ≤ (s_b 45 k).1 ∧ (s_b 45 k).2 ≤ 900 := by decide +kernel
theorem hr_45_5_5 : ∀ k, k < 6 → 5 ≤ k → 0 ≤ (s_b 45 k).1 ∧ (s_b 45 k).2 ≤ 900 := by decide +kernel
theorem fX12_reckons_30 : jj_F wsX12_reckons RX12 30 11 15 := ⟨_, _, _, rfl, by decide, iX12_reckons_X12, (show Cond.fieldLink RX12 30 (TX12 15).1 (TX12 15).2.1 (TX12 15).2.2.1 ∈ wsX12_reckons from List.mem_of_getElem? (i := 3) rfl)⟩
theorem ft_11_15 : (mm_ft 11)[15]? = some 2 := rfl
theorem sm_11_15 : s_m 11 15 = 0 := rfl
theorem sb_49 (k : Nat) : s_b 49 k = ((-2147483648), 2147483647) := rfl
theorem ak_49 : s_ak 49 = 100 := rfl
theorem an_49 : s_an 49 = 900 := rfl
theorem kX12_between_213 : Cond.constantLong RX12 213 1000000 ∈ wsX12_between := List.mem_of_getElem? (i := 1) rfl
theorem kX12_between_215 : Cond.constantLong RX12 215 (-1000000) ∈ wsX12_between := List.mem_of_getElem? (i := 2) rfl
theorem hdX12_betweens : yX12_between.cls ≠ "java/lang/invoke/MethodHandle" ∧ yX12_between.cls ≠ "java/lang/invoke/VarHandle" ∧ (parseMethodDescriptor yX12_between.desc).map (fun d => d.parameters.length) = some 3 := by decide +kernel
theorem hdX12_reckons : yX12_reckons.cls = RX12 ∧ yX12_reckons.cls ≠ "java/lang/invoke/MethodHandle" ∧ yX12_reckons.cls ≠ "java/lang/invoke/VarHandle" ∧ (parseMethodDescriptor yX12_reckons.desc).map (fun d => d.parameters.length) = some 4 := by decide +kernel
theorem hdX12_mayBuy : yX12_mayBuy.cls = RX12 ∧ yX12_mayBuy.cls ≠ "java/lang/invoke/MethodHandle" ∧ yX12_mayBuy.cls ≠ "java/lang/invoke/VarHandle" ∧ (parseMethodDescriptor yX12_mayBuy.desc).map (fun d => d.parameters.length) = some 3 := by decide +kernel
theorem iX12_wantsOf_X12 : ∀ w ∈ wsX120, w ∈ wsX12_wantsOf := fun w h => List.mem_cons_of_mem _ (List.mem_append_left _ (List.mem_append_right _ h))
theorem fX12_wantsOf_13 : jj_F wsX12_wantsOf RX12 13 11 1 := ⟨_, _, _, rfl, by decide, iX12_wantsOf_X12, (show Cond.fieldLink RX12 13 (TX12 1).1 (TX12 1).2.1 (TX12 1).2.2.1 ∈ wsX12_wantsOf from List.mem_of_getElem? (i := 1) rfl)⟩
theorem hr_45_6_6 : ∀ k, k < 7 → 6 ≤ k → 0 ≤ (s_b 45 k).1 ∧ (s_b 45 k).2 ≤ 900 := by decide +kernel
theorem hr_45_4_4 : ∀ k, k < 5 → 4 ≤ k → 0 ≤ (s_b 45 k).1 ∧ (s_b 45 k).2 ≤ 900 := by decide +kernel
theorem hdX12_wantsOf : yX12_wantsOf.cls = RX12 ∧ yX12_wantsOf.cls ≠ "java/lang/invoke/MethodHandle" ∧ yX12_wantsOf.cls ≠ "java/lang/invoke/VarHandle" ∧ (parseMethodDescriptor yX12_wantsOf.desc).map (fun d => d.parameters.length) = some 3 := by decide +kernel
theorem hdX12_buysOf : yX12_buysOf.cls = RX12 ∧ yX12_buysOf.cls ≠ "java/lang/invoke/MethodHandle" ∧ yX12_buysOf.cls ≠ "java/lang/invoke/VarHandle" ∧ (parseMethodDescriptor yX12_buysOf.desc).map (fun d => d.parameters.length) = some 2 := by decide +kernel
theorem hdX12_buysNow : yX12_buysNow.cls = RX12 ∧ yX12_buysNow.cls ≠ "java/lang/invoke/MethodHandle" ∧ yX12_buysNow.cls ≠ "java/lang/invoke/VarHandle" ∧ (parseMethodDescriptor yX12_buysNow.desc).map (fun d => d.parameters.length) = some 1 := by decide +kernel
theorem hdX12_whoBuys : yX12_whoBuys.cls = RX12 ∧ yX12_whoBuys.cls ≠ "java/lang/invoke/MethodHandle" ∧ yX12_whoBuys.cls ≠ "java/lang/invoke/VarHandle" ∧ (parseMethodDescriptor yX12_whoBuys.desc).map (fun d => d.parameters.length) = some 1 := by decide +kernel
theorem iX12_buyer_X12 : ∀ w ∈ wsX120, w ∈ wsX12_buyer := fun w h => List.mem_cons_of_mem _ (List.mem_append_left _ (List.mem_append_right _ h))
theorem qX12_buyer_1 : jj_P wsX12_buyer RX12 1 11 0 (.int) := ⟨_, _, _, tyX12, rfl, by decide, iX12_buyer_X12, (show Cond.fieldLink RX12 1 (TX12 0).1 (TX12 0).2.1 (TX12 0).2.2.1 ∈ wsX12_buyer from List.mem_of_getElem? (i := 1) rfl), tyX12_ok, nmX12, rfl, by decide +kernel⟩
theorem iX12_isBuyer_X12 : ∀ w ∈ wsX120, w ∈ wsX12_isBuyer := fun w h => List.mem_cons_of_mem _ (List.mem_append_left _ (List.mem_append_right _ h))
theorem fX12_isBuyer_13 : jj_F wsX12_isBuyer RX12 13 11 1 := ⟨_, _, _, rfl, by decide, iX12_isBuyer_X12, (show Cond.fieldLink RX12 13 (TX12 1).1 (TX12 1).2.1 (TX12 1).2.2.1 ∈ wsX12_isBuyer from List.mem_of_getElem? (i := 1) rfl)⟩
theorem hdX12_isBuyer : yX12_isBuyer.cls = RX12 ∧ yX12_isBuyer.cls ≠ "java/lang/invoke/MethodHandle" ∧ yX12_isBuyer.cls ≠ "java/lang/invoke/VarHandle" ∧ (parseMethodDescriptor yX12_isBuyer.desc).map (fun d => d.parameters.length) = some 1 := by decide +kernel
theorem fX12_buyer_13 : jj_F wsX12_buyer RX12 13 11 1 := ⟨_, _, _, rfl, by decide, iX12_buyer_X12, (show Cond.fieldLink RX12 13 (TX12 1).1 (TX12 1).2.1 (TX12 1).2.2.1 ∈ wsX12_buyer from List.mem_of_getElem? (i := 2) rfl)⟩
theorem hr_45_20_25 : ∀ k, k < 26 → 20 ≤ k → 0 ≤ (s_b 45 k).1 ∧ (s_b 45 k).2 ≤ 9 := by decide +kernel
theorem iX12_mayNow_X12 : ∀ w ∈ wsX120, w ∈ wsX12_mayNow := fun w h => List.mem_cons_of_mem _ (List.mem_append_left _ (List.mem_append_right _ h))
theorem fX12_mayNow_13 : jj_F wsX12_mayNow RX12 13 11 1 := ⟨_, _, _, rfl, by decide, iX12_mayNow_X12, (show Cond.fieldLink RX12 13 (TX12 1).1 (TX12 1).2.1 (TX12 1).2.2.1 ∈ wsX12_mayNow from List.mem_of_getElem? (i := 1) rfl)⟩
theorem hdX12_mayNow : yX12_mayNow.cls = RX12 ∧ yX12_mayNow.cls ≠ "java/lang/invoke/MethodHandle" ∧ yX12_mayNow.cls ≠ "java/lang/invoke/VarHandle" ∧ (parseMethodDescriptor yX12_mayNow.desc).map (fun d => d.parameters.length) = some 1 := by decide +kernel
theorem iX12_wants_X12 : ∀ w ∈ wsX120, w ∈ wsX12_wants := fun w h => List.mem_cons_of_mem _ (List.mem_append_left _ (List.mem_append_right _ h))
theorem qX12_wants_1 : jj_P wsX12_wants RX12 1 11 0 (.int) := ⟨_, _, _, tyX12, rfl, by decide, iX12_wants_X12, (show Cond.fieldLink RX12 1 (TX12 0).1 (TX12 0).2.1 (TX12 0).2.2.1 ∈ wsX12_wants from List.mem_of_getElem? (i := 1) rfl), tyX12_ok, nmX12, rfl, by decide +kernel⟩
theorem kX12_wants_258 : Cond.constant RX12 258 (-99000002) ∈ wsX12_wants := List.mem_of_getElem? (i := 3) rfl
theorem fX12_wants_13 : jj_F wsX12_wants RX12 13 11 1 := ⟨_, _, _, rfl, by decide, iX12_wants_X12, (show Cond.fieldLink RX12 13 (TX12 1).1 (TX12 1).2.1 (TX12 1).2.2.1 ∈ wsX12_wants from List.mem_of_getElem? (i := 2) rfl)⟩
theorem iX12_seed_X12 : ∀ w ∈ wsX120, w ∈ wsX12_seed := fun w h => List.mem_cons_of_mem _ (List.mem_append_left _ (List.mem_append_right _ h))
theorem qX12_seed_1 : jj_P wsX12_seed RX12 1 11 0 (.int) := ⟨_, _, _, tyX12, rfl, by decide, iX12_seed_X12, (show Cond.fieldLink RX12 1 (TX12 0).1 (TX12 0).2.1 (TX12 0).2.2.1 ∈ wsX12_seed from List.mem_of_getElem? (i := 1) rfl), tyX12_ok, nmX12, rfl, by decide +kernel⟩
theorem iX12_keeps_X12 : ∀ w ∈ wsX120, w ∈ wsX12_keeps := fun w h => List.mem_cons_of_mem _ (List.mem_append_left _ (List.mem_append_right _ h))
theorem fX12_keeps_36 : jj_F wsX12_keeps RX12 36 11 17 := ⟨_, _, _, rfl, by decide, iX12_keeps_X12, (show Cond.fieldLink RX12 36 (TX12 17).1 (TX12 17).2.1 (TX12 17).2.2.1 ∈ wsX12_keeps from List.mem_of_getElem? (i := 1) rfl)⟩
theorem ft_11_17 : (mm_ft 11)[17]? = some 2 := rfl
theorem sm_11_17 : s_m 11 17 = 0 := rfl
theorem fX12_keeps_13 : jj_F wsX12_keeps RX12 13 11 1 := ⟨_, _, _, rfl, by decide, iX12_keeps_X12, (show Cond.fieldLink RX12 13 (TX12 1).1 (TX12 1).2.1 (TX12 1).2.2.1 ∈ wsX12_keeps from List.mem_of_getElem? (i := 2) rfl)⟩
theorem ak_51 : s_ak 51 = 100 := rfl
theorem an_51 : s_an 51 = 23 := rfl
theorem hdX12_keeps : yX12_keeps.cls = RX12 ∧ yX12_keeps.cls ≠ "java/lang/invoke/MethodHandle" ∧ yX12_keeps.cls ≠ "java/lang/invoke/VarHandle" ∧ (parseMethodDescriptor yX12_keeps.desc).map (fun d => d.parameters.length) = some 0 := by decide +kernel
theorem fX12_seed_13 : jj_F wsX12_seed RX12 13 11 1 := ⟨_, _, _, rfl, by decide, iX12_seed_X12, (show Cond.fieldLink RX12 13 (TX12 1).1 (TX12 1).2.1 (TX12 1).2.2.1 ∈ wsX12_seed from List.mem_of_getElem? (i := 2) rfl)⟩
theorem hs_45_32_32 : ∀ k, k < 33 → 32 ≤ k → (s_b 45 k).1 ≤ (-2147483648) ∧ 2147483647 ≤ (s_b 45 k).2 := by decide +kernel
theorem hm_32_32 : ∀ k, k < 33 → 32 ≤ k → pm 45 k = true := by decide +kernel
theorem hn_32_32 : ∀ k, k < 33 → 32 ≤ k → npQ 99 k = true := by decide +kernel
theorem iX12_notes_X12 : ∀ w ∈ wsX120, w ∈ wsX12_notes := fun w h => List.mem_cons_of_mem _ (List.mem_append_left _ (List.mem_append_right _ h))
theorem fX12_notes_13 : jj_F wsX12_notes RX12 13 11 1 := ⟨_, _, _, rfl, by decide, iX12_notes_X12, (show Cond.fieldLink RX12 13 (TX12 1).1 (TX12 1).2.1 (TX12 1).2.2.1 ∈ wsX12_notes from List.mem_of_getElem? (i := 1) rfl)⟩
theorem hr_45_49_49 : ∀ k, k < 50 → 49 ≤ k → 0 ≤ (s_b 45 k).1 ∧ (s_b 45 k).2 ≤ 10 := by decide +kernel
theorem hm_50_256 : ∀ k, k < 257 → 50 ≤ k → pm 45 k = true := by decide +kernel
theorem hs_45_49_49 : ∀ k, k < 50 → 49 ≤ k → (s_b 45 k).1 ≤ 0 ∧ 10 ≤ (s_b 45 k).2 := by decide +kernel
theorem hm_49_49 : ∀ k, k < 50 → 49 ≤ k → pm 45 k = true := by decide +kernel
theorem hn_49_49 : ∀ k, k < 50 → 49 ≤ k → npQ 99 k = true := by decide +kernel
theorem fX12_notes_36 : jj_F wsX12_notes RX12 36 11 17 := ⟨_, _, _, rfl, by decide, iX12_notes_X12, (show Cond.fieldLink RX12 36 (TX12 17).1 (TX12 17).2.1 (TX12 17).2.2.1 ∈ wsX12_notes from List.mem_of_getElem? (i := 2) rfl)⟩
theorem hm_50_279 : ∀ k, k < 280 → 50 ≤ k → pm 45 k = true := by decide +kernel
theorem hdX12_notes : yX12_notes.cls = RX12 ∧ yX12_notes.cls ≠ "java/lang/invoke/MethodHandle" ∧ yX12_notes.cls ≠ "java/lang/invoke/VarHandle" ∧ (parseMethodDescriptor yX12_notes.desc).map (fun d => d.parameters.length) = some 0 := by decide +kernel
theorem fX12_seed_36 : jj_F wsX12_seed RX12 36 11 17 := ⟨_, _, _, rfl, by decide, iX12_seed_X12, (show Cond.fieldLink RX12 36 (TX12 17).1 (TX12 17).2.1 (TX12 17).2.2.1 ∈ wsX12_seed from List.mem_of_getElem? (i := 3) rfl)⟩
theorem iX12_visit_X12 : ∀ w ∈ wsX120, w ∈ wsX12_visit := fun w h => List.mem_cons_of_mem _ (List.mem_append_left _ (List.mem_append_right _ h))
theorem qX12_visit_1 : jj_P wsX12_visit RX12 1 11 0 (.int) := ⟨_, _, _, tyX12, rfl, by decide, iX12_visit_X12, (show Cond.fieldLink RX12 1 (TX12 0).1 (TX12 0).2.1 (TX12 0).2.2.1 ∈ wsX12_visit from List.mem_of_getElem? (i := 1) rfl), tyX12_ok, nmX12, rfl, by decide +kernel⟩
theorem iX12_isShut_X12 : ∀ w ∈ wsX120, w ∈ wsX12_isShut := fun w h => List.mem_cons_of_mem _ (List.mem_append_left _ (List.mem_append_right _ h))
theorem fX12_isShut_13 : jj_F wsX12_isShut RX12 13 11 1 := ⟨_, _, _, rfl, by decide, iX12_isShut_X12, (show Cond.fieldLink RX12 13 (TX12 1).1 (TX12 1).2.1 (TX12 1).2.2.1 ∈ wsX12_isShut from List.mem_of_getElem? (i := 1) rfl)⟩
theorem hdX12_isShut : yX12_isShut.cls = RX12 ∧ yX12_isShut.cls ≠ "java/lang/invoke/MethodHandle" ∧ yX12_isShut.cls ≠ "java/lang/invoke/VarHandle" ∧ (parseMethodDescriptor yX12_isShut.desc).map (fun d => d.parameters.length) = some 0 := by decide +kernel
theorem hdX12_whyVisit : yX12_whyVisit.cls = RX12 ∧ yX12_whyVisit.cls ≠ "java/lang/invoke/MethodHandle" ∧ yX12_whyVisit.cls ≠ "java/lang/invoke/VarHandle" ∧ (parseMethodDescriptor yX12_whyVisit.desc).map (fun d => d.parameters.length) = some 1 := by decide +kernel
theorem iX12_visits_X12 : ∀ w ∈ wsX120, w ∈ wsX12_visits := fun w h => List.mem_cons_of_mem _ (List.mem_append_left _ (List.mem_append_right _ h))
theorem fX12_visits_13 : jj_F wsX12_visits RX12 13 11 1 := ⟨_, _, _, rfl, by decide, iX12_visits_X12, (show Cond.fieldLink RX12 13 (TX12 1).1 (TX12 1).2.1 (TX12 1).2.2.1 ∈ wsX12_visits from List.mem_of_getElem? (i := 1) rfl)⟩
theorem hs_45_27_27 : ∀ k, k < 28 → 27 ≤ k → (s_b 45 k).1 ≤ 0 ∧ 255 ≤ (s_b 45 k).2 := by decide +kernel
theorem hm_27_27 : ∀ k, k < 28 → 27 ≤ k → pm 45 k = true := by decide +kernel
theorem hs_45_29_29 : ∀ k, k < 30 → 29 ≤ k → (s_b 45 k).1 ≤ (-2147483648) ∧ 2147483647 ≤ (s_b 45 k).2 := by decide +kernel
theorem hm_29_29 : ∀ k, k < 30 → 29 ≤ k → pm 45 k = true := by decide +kernel
theorem hn_29_29 : ∀ k, k < 30 → 29 ≤ k → npQ 99 k = true := by decide +kernel
theorem hdX12_visits : yX12_visits.cls = RX12 ∧ yX12_visits.cls ≠ "java/lang/invoke/MethodHandle" ∧ yX12_visits.cls ≠ "java/lang/invoke/VarHandle" ∧ (parseMethodDescriptor yX12_visits.desc).map (fun d => d.parameters.length) = some 1 := by decide +kernel
theorem iX12_gift_X12 : ∀ w ∈ wsX120, w ∈ wsX12_gift := fun w h => List.mem_cons_of_mem _ (List.mem_append_left _ (List.mem_append_right _ h))
theorem qX12_gift_1 : jj_P wsX12_gift RX12 1 11 0 (.int) := ⟨_, _, _, tyX12, rfl, by decide, iX12_gift_X12, (show Cond.fieldLink RX12 1 (TX12 0).1 (TX12 0).2.1 (TX12 0).2.2.1 ∈ wsX12_gift from List.mem_of_getElem? (i := 1) rfl), tyX12_ok, nmX12, rfl, by decide +kernel⟩
theorem hdX12_whyKind : yX12_whyKind.cls = RX12 ∧ yX12_whyKind.cls ≠ "java/lang/invoke/MethodHandle" ∧ yX12_whyKind.cls ≠ "java/lang/invoke/VarHandle" ∧ (parseMethodDescriptor yX12_whyKind.desc).map (fun d => d.parameters.length) = some 1 := by decide +kernel
theorem fX12_gift_13 : jj_F wsX12_gift RX12 13 11 1 := ⟨_, _, _, rfl, by decide, iX12_gift_X12, (show Cond.fieldLink RX12 13 (TX12 1).1 (TX12 1).2.1 (TX12 1).2.2.1 ∈ wsX12_gift from List.mem_of_getElem? (i := 2) rfl)⟩
theorem hs_45_30_30 : ∀ k, k < 31 → 30 ≤ k → (s_b 45 k).1 ≤ (-2147483648) ∧ 2147483647 ≤ (s_b 45 k).2 := by decide +kernel
theorem hm_30_30 : ∀ k, k < 31 → 30 ≤ k → pm 45 k = true := by decide +kernel
theorem hn_30_30 : ∀ k, k < 31 → 30 ≤ k → npQ 99 k = true := by decide +kernel
theorem iX12_hide_X12 : ∀ w ∈ wsX120, w ∈ wsX12_hide := fun w h => List.mem_cons_of_mem _ (List.mem_append_left _ (List.mem_append_right _ h))
theorem qX12_hide_1 : jj_P wsX12_hide RX12 1 11 0 (.int) := ⟨_, _, _, tyX12, rfl, by decide, iX12_hide_X12, (show Cond.fieldLink RX12 1 (TX12 0).1 (TX12 0).2.1 (TX12 0).2.2.1 ∈ wsX12_hide from List.mem_of_getElem? (i := 1) rfl), tyX12_ok, nmX12, rfl, by decide +kernel⟩
theorem fX12_hide_13 : jj_F wsX12_hide RX12 13 11 1 := ⟨_, _, _, rfl, by decide, iX12_hide_X12, (show Cond.fieldLink RX12 13 (TX12 1).1 (TX12 1).2.1 (TX12 1).2.2.1 ∈ wsX12_hide from List.mem_of_getElem? (i := 2) rfl)⟩
theorem hs_45_28_28 : ∀ k, k < 29 → 28 ≤ k → (s_b 45 k).1 ≤ 0 ∧ 255 ≤ (s_b 45 k).2 := by decide +kernel
theorem hm_28_28 : ∀ k, k < 29 → 28 ≤ k → pm 45 k = true := by decide +kernel
theorem hn_28_28 : ∀ k, k < 29 → 28 ≤ k → npQ 99 k = true := by decide +kernel
theorem iX12_add_X12 : ∀ w ∈ wsX120, w ∈ wsX12_add := fun w h => List.mem_cons_of_mem _ (List.mem_append_left _ (List.mem_append_right _ h))
theorem qX12_add_1 : jj_P wsX12_add RX12 1 11 0 (.int) := ⟨_, _, _, tyX12, rfl, by decide, iX12_add_X12, (show Cond.fieldLink RX12 1 (TX12 0).1 (TX12 0).2.1 (TX12 0).2.2.1 ∈ wsX12_add from List.mem_of_getElem? (i := 1) rfl), tyX12_ok, nmX12, rfl, by decide +kernel⟩
theorem kX12_isPrice_263 : Cond.constantLong RX12 263 99 ∈ wsX12_isPrice := List.mem_of_getElem? (i := 1) rfl
theorem hdX12_isPrices : yX12_isPrice.cls ≠ "java/lang/invoke/MethodHandle" ∧ yX12_isPrice.cls ≠ "java/lang/invoke/VarHandle" ∧ (parseMethodDescriptor yX12_isPrice.desc).map (fun d => d.parameters.length) = some 1 := by decide +kernel
theorem kX12_add_291 : Cond.constantLong RX12 291 9 ∈ wsX12_add := List.mem_of_getElem? (i := 2) rfl
theorem fX12_add_13 : jj_F wsX12_add RX12 13 11 1 := ⟨_, _, _, rfl, by decide, iX12_add_X12, (show Cond.fieldLink RX12 13 (TX12 1).1 (TX12 1).2.1 (TX12 1).2.2.1 ∈ wsX12_add from List.mem_of_getElem? (i := 3) rfl)⟩
theorem hs_45_26_26 : ∀ k, k < 27 → 26 ≤ k → (s_b 45 k).1 ≤ 0 ∧ 8 ≤ (s_b 45 k).2 := by decide +kernel
theorem hm_26_26 : ∀ k, k < 27 → 26 ≤ k → pm 45 k = true := by decide +kernel
theorem hs_45_33_40 : ∀ k, k < 41 → 33 ≤ k → (s_b 45 k).1 ≤ (-2147483648) ∧ 2147483647 ≤ (s_b 45 k).2 := by decide +kernel
theorem hm_33_40 : ∀ k, k < 41 → 33 ≤ k → pm 45 k = true := by decide +kernel
theorem hn_33_40 : ∀ k, k < 41 → 33 ≤ k → npQ 99 k = true := by decide +kernel
theorem hs_45_41_48 : ∀ k, k < 49 → 41 ≤ k → (s_b 45 k).1 ≤ (-2147483648) ∧ 2147483647 ≤ (s_b 45 k).2 := by decide +kernel
theorem hm_41_48 : ∀ k, k < 49 → 41 ≤ k → pm 45 k = true := by decide +kernel
theorem hn_41_48 : ∀ k, k < 49 → 41 ≤ k → npQ 99 k = true := by decide +kernel
theorem iX12_price_X12 : ∀ w ∈ wsX120, w ∈ wsX12_price := fun w h => List.mem_cons_of_mem _ (List.mem_append_left _ (List.mem_append_right _ h))
theorem qX12_price_1 : jj_P wsX12_price RX12 1 11 0 (.int) := ⟨_, _, _, tyX12, rfl, by decide, iX12_price_X12, (show Cond.fieldLink RX12 1 (TX12 0).1 (TX12 0).2.1 (TX12 0).2.2.1 ∈ wsX12_price from List.mem_of_getElem? (i := 1) rfl), tyX12_ok, nmX12, rfl, by decide +kernel⟩
theorem hdX12_whyPrice : yX12_whyPrice.cls = RX12 ∧ yX12_whyPrice.cls ≠ "java/lang/invoke/MethodHandle" ∧ yX12_whyPrice.cls ≠ "java/lang/invoke/VarHandle" ∧ (parseMethodDescriptor yX12_whyPrice.desc).map (fun d => d.parameters.length) = some 2 := by decide +kernel
theorem fX12_price_13 : jj_F wsX12_price RX12 13 11 1 := ⟨_, _, _, rfl, by decide, iX12_price_X12, (show Cond.fieldLink RX12 13 (TX12 1).1 (TX12 1).2.1 (TX12 1).2.2.1 ∈ wsX12_price from List.mem_of_getElem? (i := 2) rfl)⟩
theorem fX12_price_36 : jj_F wsX12_price RX12 36 11 17 := ⟨_, _, _, rfl, by decide, iX12_price_X12, (show Cond.fieldLink RX12 36 (TX12 17).1 (TX12 17).2.1 (TX12 17).2.2.1 ∈ wsX12_price from List.mem_of_getElem? (i := 3) rfl)⟩
theorem iX12_days_X12 : ∀ w ∈ wsX120, w ∈ wsX12_days := fun w h => List.mem_cons_of_mem _ (List.mem_append_left _ (List.mem_append_right _ h))
theorem qX12_days_1 : jj_P wsX12_days RX12 1 11 0 (.int) := ⟨_, _, _, tyX12, rfl, by decide, iX12_days_X12, (show Cond.fieldLink RX12 1 (TX12 0).1 (TX12 0).2.1 (TX12 0).2.2.1 ∈ wsX12_days from List.mem_of_getElem? (i := 1) rfl), tyX12_ok, nmX12, rfl, by decide +kernel⟩
theorem kX12_days_263 : Cond.constantLong RX12 263 99 ∈ wsX12_days := List.mem_of_getElem? (i := 2) rfl
theorem iX12_goesDay_X12 : ∀ w ∈ wsX120, w ∈ wsX12_goesDay := fun w h => List.mem_cons_of_mem _ (List.mem_append_left _ (List.mem_append_right _ h))
theorem fX12_goesDay_13 : jj_F wsX12_goesDay RX12 13 11 1 := ⟨_, _, _, rfl, by decide, iX12_goesDay_X12, (show Cond.fieldLink RX12 13 (TX12 1).1 (TX12 1).2.1 (TX12 1).2.2.1 ∈ wsX12_goesDay from List.mem_of_getElem? (i := 1) rfl)⟩
theorem hs_45_31_31 : ∀ k, k < 32 → 31 ≤ k → (s_b 45 k).1 ≤ (-2147483648) ∧ 2147483647 ≤ (s_b 45 k).2 := by decide +kernel
theorem hm_31_31 : ∀ k, k < 32 → 31 ≤ k → pm 45 k = true := by decide +kernel
theorem hn_31_31 : ∀ k, k < 32 → 31 ≤ k → npQ 99 k = true := by decide +kernel
theorem iX12_oddsAll_X12 : ∀ w ∈ wsX120, w ∈ wsX12_oddsAll := fun w h => List.mem_cons_of_mem _ (List.mem_append_left _ (List.mem_append_right _ h))
theorem fX12_oddsAll_13 : jj_F wsX12_oddsAll RX12 13 11 1 := ⟨_, _, _, rfl, by decide, iX12_oddsAll_X12, (show Cond.fieldLink RX12 13 (TX12 1).1 (TX12 1).2.1 (TX12 1).2.2.1 ∈ wsX12_oddsAll from List.mem_of_getElem? (i := 1) rfl)⟩
theorem hdX12_oddsAll : yX12_oddsAll.cls = RX12 ∧ yX12_oddsAll.cls ≠ "java/lang/invoke/MethodHandle" ∧ yX12_oddsAll.cls ≠ "java/lang/invoke/VarHandle" ∧ (parseMethodDescriptor yX12_oddsAll.desc).map (fun d => d.parameters.length) = some 0 := by decide +kernel
theorem iX12_draw_X12 : ∀ w ∈ wsX120, w ∈ wsX12_draw := fun w h => List.mem_cons_of_mem _ (List.mem_append_left _ (List.mem_append_right _ h))
theorem fX12_draw_13 : jj_F wsX12_draw RX12 13 11 1 := ⟨_, _, _, rfl, by decide, iX12_draw_X12, (show Cond.fieldLink RX12 13 (TX12 1).1 (TX12 1).2.1 (TX12 1).2.2.1 ∈ wsX12_draw from List.mem_of_getElem? (i := 1) rfl)⟩
theorem kX12_draw_268 : Cond.constant RX12 268 1103515245 ∈ wsX12_draw := List.mem_of_getElem? (i := 2) rfl
theorem hdX12_draw : yX12_draw.cls = RX12 ∧ yX12_draw.cls ≠ "java/lang/invoke/MethodHandle" ∧ yX12_draw.cls ≠ "java/lang/invoke/VarHandle" ∧ (parseMethodDescriptor yX12_draw.desc).map (fun d => d.parameters.length) = some 1 := by decide +kernel
theorem hdX12_goesDay : yX12_goesDay.cls = RX12 ∧ yX12_goesDay.cls ≠ "java/lang/invoke/MethodHandle" ∧ yX12_goesDay.cls ≠ "java/lang/invoke/VarHandle" ∧ (parseMethodDescriptor yX12_goesDay.desc).map (fun d => d.parameters.length) = some 0 := by decide +kernel
theorem iX12_undo_X12 : ∀ w ∈ wsX120, w ∈ wsX12_undo := fun w h => List.mem_cons_of_mem _ (List.mem_append_left _ (List.mem_append_right _ h))
theorem qX12_undo_1 : jj_P wsX12_undo RX12 1 11 0 (.int) := ⟨_, _, _, tyX12, rfl, by decide, iX12_undo_X12, (show Cond.fieldLink RX12 1 (TX12 0).1 (TX12 0).2.1 (TX12 0).2.2.1 ∈ wsX12_undo from List.mem_of_getElem? (i := 1) rfl), tyX12_ok, nmX12, rfl, by decide +kernel⟩
theorem kX12_undo_300 : Cond.constantLong RX12 300 10 ∈ wsX12_undo := List.mem_of_getElem? (i := 2) rfl
theorem fX12_undo_13 : jj_F wsX12_undo RX12 13 11 1 := ⟨_, _, _, rfl, by decide, iX12_undo_X12, (show Cond.fieldLink RX12 13 (TX12 1).1 (TX12 1).2.1 (TX12 1).2.2.1 ∈ wsX12_undo from List.mem_of_getElem? (i := 3) rfl)⟩
theorem hm_26_48 : ∀ k, k < 49 → 26 ≤ k → pm 45 k = true := by decide +kernel
theorem iX12_judge_X12 : ∀ w ∈ wsX120, w ∈ wsX12_judge := fun w h => List.mem_cons_of_mem _ (List.mem_append_left _ (List.mem_append_right _ h))
theorem qX12_judge_1 : jj_P wsX12_judge RX12 1 11 0 (.int) := ⟨_, _, _, tyX12, rfl, by decide, iX12_judge_X12, (show Cond.fieldLink RX12 1 (TX12 0).1 (TX12 0).2.1 (TX12 0).2.2.1 ∈ wsX12_judge from List.mem_of_getElem? (i := 1) rfl), tyX12_ok, nmX12, rfl, by decide +kernel⟩
theorem kX12_judge_325 : Cond.constantLong RX12 325 3 ∈ wsX12_judge := List.mem_of_getElem? (i := 2) rfl
theorem kX12_noTray_325 : Cond.constantLong RX12 325 3 ∈ wsX12_noTray := List.mem_of_getElem? (i := 1) rfl
theorem iX12_noTray_X12 : ∀ w ∈ wsX120, w ∈ wsX12_noTray := fun w h => List.mem_cons_of_mem _ (List.mem_append_left _ (List.mem_append_right _ h))
theorem fX12_noTray_67 : jj_F wsX12_noTray RX12 67 11 29 := ⟨_, _, _, rfl, by decide, iX12_noTray_X12, (show Cond.fieldLink RX12 67 (TX12 29).1 (TX12 29).2.1 (TX12 29).2.2.1 ∈ wsX12_noTray from List.mem_of_getElem? (i := 2) rfl)⟩
theorem ft_11_29 : (mm_ft 11)[29]? = some 2 := rfl
theorem sm_11_29 : s_m 11 29 = 0 := rfl
theorem sb_61 (k : Nat) : s_b 61 k = ((-1), 3) := rfl
theorem ak_61 : s_ak 61 = 100 := rfl
theorem an_61 : s_an 61 = 4 := rfl
theorem hdX12_noTray : yX12_noTray.cls = RX12 ∧ yX12_noTray.cls ≠ "java/lang/invoke/MethodHandle" ∧ yX12_noTray.cls ≠ "java/lang/invoke/VarHandle" ∧ (parseMethodDescriptor yX12_noTray.desc).map (fun d => d.parameters.length) = some 1 := by decide +kernel
theorem iX12_tells_X12 : ∀ w ∈ wsX120, w ∈ wsX12_tells := fun w h => List.mem_cons_of_mem _ (List.mem_append_left _ (List.mem_append_right _ h))
theorem qX12_tells_316 : jj_P wsX12_tells RX12 316 11 18 (.int) := ⟨_, _, _, tyX12, rfl, by decide, iX12_tells_X12, (show Cond.fieldLink RX12 316 (TX12 18).1 (TX12 18).2.1 (TX12 18).2.2.1 ∈ wsX12_tells from List.mem_of_getElem? (i := 1) rfl), tyX12_ok, nmX12, rfl, by decide +kernel⟩
theorem sb_11_18 : s_b 11 18 = ((-2147483648), 2147483647) := rfl
theorem ft_11_18 : (mm_ft 11)[18]? = some 0 := rfl
theorem fX12_tells_70 : jj_F wsX12_tells RX12 70 11 30 := ⟨_, _, _, rfl, by decide, iX12_tells_X12, (show Cond.fieldLink RX12 70 (TX12 30).1 (TX12 30).2.1 (TX12 30).2.2.1 ∈ wsX12_tells from List.mem_of_getElem? (i := 2) rfl)⟩
theorem ft_11_30 : (mm_ft 11)[30]? = some 2 := rfl
theorem sm_11_30 : s_m 11 30 = 0 := rfl
theorem sb_62 (k : Nat) : s_b 62 k = (0, 40) := rfl
theorem ak_62 : s_ak 62 = 100 := rfl
theorem an_62 : s_an 62 = 4 := rfl
theorem fX12_tells_73 : jj_F wsX12_tells RX12 73 11 31 := ⟨_, _, _, rfl, by decide, iX12_tells_X12, (show Cond.fieldLink RX12 73 (TX12 31).1 (TX12 31).2.1 (TX12 31).2.2.1 ∈ wsX12_tells from List.mem_of_getElem? (i := 3) rfl)⟩
theorem ft_11_31 : (mm_ft 11)[31]? = some 2 := rfl
theorem sm_11_31 : s_m 11 31 = 0 := rfl
theorem ak_63 : s_ak 63 = 102 := rfl
theorem an_63 : s_an 63 = 160 := rfl
theorem kX12_whyNot_302 : Cond.constantLong RX12 302 (-1) ∈ wsX12_whyNot := List.mem_of_getElem? (i := 1) rfl
theorem kX12_whyNot_291 : Cond.constantLong RX12 291 9 ∈ wsX12_whyNot := List.mem_of_getElem? (i := 2) rfl
theorem kX12_whyNot_304 : Cond.constantLong RX12 304 100 ∈ wsX12_whyNot := List.mem_of_getElem? (i := 3) rfl
theorem kX12_whyNot_306 : Cond.constantLong RX12 306 109 ∈ wsX12_whyNot := List.mem_of_getElem? (i := 4) rfl
theorem kX12_whyNot_308 : Cond.constantLong RX12 308 200 ∈ wsX12_whyNot := List.mem_of_getElem? (i := 5) rfl
theorem kX12_whyNot_310 : Cond.constantLong RX12 310 209 ∈ wsX12_whyNot := List.mem_of_getElem? (i := 6) rfl
theorem kX12_whyNot_312 : Cond.constantLong RX12 312 1000 ∈ wsX12_whyNot := List.mem_of_getElem? (i := 7) rfl
theorem kX12_whyNot_314 : Cond.constantLong RX12 314 1999 ∈ wsX12_whyNot := List.mem_of_getElem? (i := 8) rfl
theorem hdX12_whyNot : yX12_whyNot.cls = RX12 ∧ yX12_whyNot.cls ≠ "java/lang/invoke/MethodHandle" ∧ yX12_whyNot.cls ≠ "java/lang/invoke/VarHandle" ∧ (parseMethodDescriptor yX12_whyNot.desc).map (fun d => d.parameters.length) = some 1 := by decide +kernel
theorem fX12_tells_316 : jj_F wsX12_tells RX12 316 11 18 := ⟨_, _, _, rfl, by decide, iX12_tells_X12, (show Cond.fieldLink RX12 316 (TX12 18).1 (TX12 18).2.1 (TX12 18).2.2.1 ∈ wsX12_tells from List.mem_of_getElem? (i := 1) rfl)⟩
theorem iX12_does_X12 : ∀ w ∈ wsX120, w ∈ wsX12_does := fun w h => List.mem_cons_of_mem _ (List.mem_append_left _ (List.mem_append_right _ h))
theorem fX12_does_13 : jj_F wsX12_does RX12 13 11 1 := ⟨_, _, _, rfl, by decide, iX12_does_X12, (show Cond.fieldLink RX12 13 (TX12 1).1 (TX12 1).2.1 (TX12 1).2.2.1 ∈ wsX12_does from List.mem_of_getElem? (i := 1) rfl)⟩
theorem hdX12_does : yX12_does.cls = RX12 ∧ yX12_does.cls ≠ "java/lang/invoke/MethodHandle" ∧ yX12_does.cls ≠ "java/lang/invoke/VarHandle" ∧ (parseMethodDescriptor yX12_does.desc).map (fun d => d.parameters.length) = some 1 := by decide +kernel
theorem hdX12_tells : yX12_tells.cls = RX12 ∧ yX12_tells.cls ≠ "java/lang/invoke/MethodHandle" ∧ yX12_tells.cls ≠ "java/lang/invoke/VarHandle" ∧ (parseMethodDescriptor yX12_tells.desc).map (fun d => d.parameters.length) = some 1 := by decide +kernel
theorem fX12_judge_13 : jj_F wsX12_judge RX12 13 11 1 := ⟨_, _, _, rfl, by decide, iX12_judge_X12, (show Cond.fieldLink RX12 13 (TX12 1).1 (TX12 1).2.1 (TX12 1).2.2.1 ∈ wsX12_judge from List.mem_of_getElem? (i := 3) rfl)⟩
theorem iX12_isAgain_X12 : ∀ w ∈ wsX120, w ∈ wsX12_isAgain := fun w h => List.mem_cons_of_mem _ (List.mem_append_left _ (List.mem_append_right _ h))
theorem fX12_isAgain_13 : jj_F wsX12_isAgain RX12 13 11 1 := ⟨_, _, _, rfl, by decide, iX12_isAgain_X12, (show Cond.fieldLink RX12 13 (TX12 1).1 (TX12 1).2.1 (TX12 1).2.2.1 ∈ wsX12_isAgain from List.mem_of_getElem? (i := 1) rfl)⟩
theorem fX12_isAgain_36 : jj_F wsX12_isAgain RX12 36 11 17 := ⟨_, _, _, rfl, by decide, iX12_isAgain_X12, (show Cond.fieldLink RX12 36 (TX12 17).1 (TX12 17).2.1 (TX12 17).2.2.1 ∈ wsX12_isAgain from List.mem_of_getElem? (i := 2) rfl)⟩
theorem hdX12_isAgain : yX12_isAgain.cls = RX12 ∧ yX12_isAgain.cls ≠ "java/lang/invoke/MethodHandle" ∧ yX12_isAgain.cls ≠ "java/lang/invoke/VarHandle" ∧ (parseMethodDescriptor yX12_isAgain.desc).map (fun d => d.parameters.length) = some 0 := by decide +kernel
theorem fX12_judge_316 : jj_F wsX12_judge RX12 316 11 18 := ⟨_, _, _, rfl, by decide, iX12_judge_X12, (show Cond.fieldLink RX12 316 (TX12 18).1 (TX12 18).2.1 (TX12 18).2.2.1 ∈ wsX12_judge from List.mem_of_getElem? (i := 4) rfl)⟩
theorem iX12_perform_X12 : ∀ w ∈ wsX120, w ∈ wsX12_perform := fun w h => List.mem_cons_of_mem _ (List.mem_append_left _ (List.mem_append_right _ h))
theorem qX12_perform_1 : jj_P wsX12_perform RX12 1 11 0 (.int) := ⟨_, _, _, tyX12, rfl, by decide, iX12_perform_X12, (show Cond.fieldLink RX12 1 (TX12 0).1 (TX12 0).2.1 (TX12 0).2.2.1 ∈ wsX12_perform from List.mem_of_getElem? (i := 1) rfl), tyX12_ok, nmX12, rfl, by decide +kernel⟩
theorem iX12_season_X12 : ∀ w ∈ wsX120, w ∈ wsX12_season := fun w h => List.mem_cons_of_mem _ (List.mem_append_left _ (List.mem_append_right _ h))
theorem qX12_season_1 : jj_P wsX12_season RX12 1 11 0 (.int) := ⟨_, _, _, tyX12, rfl, by decide, iX12_season_X12, (show Cond.fieldLink RX12 1 (TX12 0).1 (TX12 0).2.1 (TX12 0).2.2.1 ∈ wsX12_season from List.mem_of_getElem? (i := 1) rfl), tyX12_ok, nmX12, rfl, by decide +kernel⟩
theorem kX12_season_336 : Cond.constantLong RX12 336 40 ∈ wsX12_season := List.mem_of_getElem? (i := 2) rfl
theorem fX12_season_13 : jj_F wsX12_season RX12 13 11 1 := ⟨_, _, _, rfl, by decide, iX12_season_X12, (show Cond.fieldLink RX12 13 (TX12 1).1 (TX12 1).2.1 (TX12 1).2.2.1 ∈ wsX12_season from List.mem_of_getElem? (i := 3) rfl)⟩
theorem hdX12_drawn : yX12_drawn.cls = RX12 ∧ yX12_drawn.cls ≠ "java/lang/invoke/MethodHandle" ∧ yX12_drawn.cls ≠ "java/lang/invoke/VarHandle" ∧ (parseMethodDescriptor yX12_drawn.desc).map (fun d => d.parameters.length) = some 0 := by decide +kernel
theorem iX12_ending_X12 : ∀ w ∈ wsX120, w ∈ wsX12_ending := fun w h => List.mem_cons_of_mem _ (List.mem_append_left _ (List.mem_append_right _ h))
theorem qX12_ending_1 : jj_P wsX12_ending RX12 1 11 0 (.int) := ⟨_, _, _, tyX12, rfl, by decide, iX12_ending_X12, (show Cond.fieldLink RX12 1 (TX12 0).1 (TX12 0).2.1 (TX12 0).2.2.1 ∈ wsX12_ending from List.mem_of_getElem? (i := 1) rfl), tyX12_ok, nmX12, rfl, by decide +kernel⟩
theorem iX12_laysBuys_X12 : ∀ w ∈ wsX120, w ∈ wsX12_laysBuys := fun w h => List.mem_cons_of_mem _ (List.mem_append_left _ (List.mem_append_right _ h))
theorem fX12_laysBuys_13 : jj_F wsX12_laysBuys RX12 13 11 1 := ⟨_, _, _, rfl, by decide, iX12_laysBuys_X12, (show Cond.fieldLink RX12 13 (TX12 1).1 (TX12 1).2.1 (TX12 1).2.2.1 ∈ wsX12_laysBuys from List.mem_of_getElem? (i := 1) rfl)⟩
theorem fX12_laysBuys_39 : jj_F wsX12_laysBuys RX12 39 11 19 := ⟨_, _, _, rfl, by decide, iX12_laysBuys_X12, (show Cond.fieldLink RX12 39 (TX12 19).1 (TX12 19).2.1 (TX12 19).2.2.1 ∈ wsX12_laysBuys from List.mem_of_getElem? (i := 2) rfl)⟩
theorem ft_11_19 : (mm_ft 11)[19]? = some 2 := rfl
theorem sm_11_19 : s_m 11 19 = 0 := rfl
theorem ak_52 : s_ak 52 = 100 := rfl
theorem an_52 : s_an 52 = 1536 := rfl
theorem sb_52 (k : Nat) : s_b 52 k = ((-1), 7) := rfl
theorem hdX12_laysBuys : yX12_laysBuys.cls = RX12 ∧ yX12_laysBuys.cls ≠ "java/lang/invoke/MethodHandle" ∧ yX12_laysBuys.cls ≠ "java/lang/invoke/VarHandle" ∧ (parseMethodDescriptor yX12_laysBuys.desc).map (fun d => d.parameters.length) = some 0 := by decide +kernel
theorem kX12_laysEnding_341 : Cond.constant RX12 341 268435456 ∈ wsX12_laysEnding := List.mem_of_getElem? (i := 1) rfl
theorem iX12_laysEnding_X12 : ∀ w ∈ wsX120, w ∈ wsX12_laysEnding := fun w h => List.mem_cons_of_mem _ (List.mem_append_left _ (List.mem_append_right _ h))
theorem fX12_laysEnding_13 : jj_F wsX12_laysEnding RX12 13 11 1 := ⟨_, _, _, rfl, by decide, iX12_laysEnding_X12, (show Cond.fieldLink RX12 13 (TX12 1).1 (TX12 1).2.1 (TX12 1).2.2.1 ∈ wsX12_laysEnding from List.mem_of_getElem? (i := 2) rfl)⟩
theorem iX12_boughtBy_X12 : ∀ w ∈ wsX120, w ∈ wsX12_boughtBy := fun w h => List.mem_cons_of_mem _ (List.mem_append_left _ (List.mem_append_right _ h))
theorem fX12_boughtBy_39 : jj_F wsX12_boughtBy RX12 39 11 19 := ⟨_, _, _, rfl, by decide, iX12_boughtBy_X12, (show Cond.fieldLink RX12 39 (TX12 19).1 (TX12 19).2.1 (TX12 19).2.2.1 ∈ wsX12_boughtBy from List.mem_of_getElem? (i := 1) rfl)⟩
theorem hdX12_boughtBy : yX12_boughtBy.cls = RX12 ∧ yX12_boughtBy.cls ≠ "java/lang/invoke/MethodHandle" ∧ yX12_boughtBy.cls ≠ "java/lang/invoke/VarHandle" ∧ (parseMethodDescriptor yX12_boughtBy.desc).map (fun d => d.parameters.length) = some 2 := by decide +kernel
theorem fX12_laysEnding_42 : jj_F wsX12_laysEnding RX12 42 11 20 := ⟨_, _, _, rfl, by decide, iX12_laysEnding_X12, (show Cond.fieldLink RX12 42 (TX12 20).1 (TX12 20).2.1 (TX12 20).2.2.1 ∈ wsX12_laysEnding from List.mem_of_getElem? (i := 3) rfl)⟩
theorem ft_11_20 : (mm_ft 11)[20]? = some 2 := rfl
theorem sm_11_20 : s_m 11 20 = 0 := rfl
theorem sb_53 (k : Nat) : s_b 53 k = (0, 268435456) := rfl
theorem ak_53 : s_ak 53 = 100 := rfl
theorem an_53 : s_an 53 = 256 := rfl
theorem hdX12_laysEnding : yX12_laysEnding.cls = RX12 ∧ yX12_laysEnding.cls ≠ "java/lang/invoke/MethodHandle" ∧ yX12_laysEnding.cls ≠ "java/lang/invoke/VarHandle" ∧ (parseMethodDescriptor yX12_laysEnding.desc).map (fun d => d.parameters.length) = some 1 := by decide +kernel
theorem hdX12_endingNow : yX12_endingNow.cls = RX12 ∧ yX12_endingNow.cls ≠ "java/lang/invoke/MethodHandle" ∧ yX12_endingNow.cls ≠ "java/lang/invoke/VarHandle" ∧ (parseMethodDescriptor yX12_endingNow.desc).map (fun d => d.parameters.length) = some 0 := by decide +kernel
theorem iX12_endingBy_X12 : ∀ w ∈ wsX120, w ∈ wsX12_endingBy := fun w h => List.mem_cons_of_mem _ (List.mem_append_left _ (List.mem_append_right _ h))
theorem qX12_endingBy_1 : jj_P wsX12_endingBy RX12 1 11 0 (.int) := ⟨_, _, _, tyX12, rfl, by decide, iX12_endingBy_X12, (show Cond.fieldLink RX12 1 (TX12 0).1 (TX12 0).2.1 (TX12 0).2.2.1 ∈ wsX12_endingBy from List.mem_of_getElem? (i := 1) rfl), tyX12_ok, nmX12, rfl, by decide +kernel⟩
theorem iX12_laysEndingRow_X12 : ∀ w ∈ wsX120, w ∈ wsX12_laysEndingRow := fun w h => List.mem_cons_of_mem _ (List.mem_append_left _ (List.mem_append_right _ h))
theorem fX12_laysEndingRow_13 : jj_F wsX12_laysEndingRow RX12 13 11 1 := ⟨_, _, _, rfl, by decide, iX12_laysEndingRow_X12, (show Cond.fieldLink RX12 13 (TX12 1).1 (TX12 1).2.1 (TX12 1).2.2.1 ∈ wsX12_laysEndingRow from List.mem_of_getElem? (i := 1) rfl)⟩
theorem fX12_laysEndingRow_42 : jj_F wsX12_laysEndingRow RX12 42 11 20 := ⟨_, _, _, rfl, by decide, iX12_laysEndingRow_X12, (show Cond.fieldLink RX12 42 (TX12 20).1 (TX12 20).2.1 (TX12 20).2.2.1 ∈ wsX12_laysEndingRow from List.mem_of_getElem? (i := 2) rfl)⟩
theorem fX12_laysEndingRow_45 : jj_F wsX12_laysEndingRow RX12 45 11 21 := ⟨_, _, _, rfl, by decide, iX12_laysEndingRow_X12, (show Cond.fieldLink RX12 45 (TX12 21).1 (TX12 21).2.1 (TX12 21).2.2.1 ∈ wsX12_laysEndingRow from List.mem_of_getElem? (i := 3) rfl)⟩
theorem ft_11_21 : (mm_ft 11)[21]? = some 2 := rfl
theorem sm_11_21 : s_m 11 21 = 0 := rfl
theorem ak_54 : s_ak 54 = 100 := rfl
theorem an_54 : s_an 54 = 256 := rfl
theorem sb_54 (k : Nat) : s_b 54 k = (0, 5) := rfl
theorem hdX12_laysEndingRow : yX12_laysEndingRow.cls = RX12 ∧ yX12_laysEndingRow.cls ≠ "java/lang/invoke/MethodHandle" ∧ yX12_laysEndingRow.cls ≠ "java/lang/invoke/VarHandle" ∧ (parseMethodDescriptor yX12_laysEndingRow.desc).map (fun d => d.parameters.length) = some 0 := by decide +kernel
theorem fX12_endingBy_45 : jj_F wsX12_endingBy RX12 45 11 21 := ⟨_, _, _, rfl, by decide, iX12_endingBy_X12, (show Cond.fieldLink RX12 45 (TX12 21).1 (TX12 21).2.1 (TX12 21).2.2.1 ∈ wsX12_endingBy from List.mem_of_getElem? (i := 2) rfl)⟩
theorem iX12_endings_X12 : ∀ w ∈ wsX120, w ∈ wsX12_endings := fun w h => List.mem_cons_of_mem _ (List.mem_append_left _ (List.mem_append_right _ h))
theorem qX12_endings_1 : jj_P wsX12_endings RX12 1 11 0 (.int) := ⟨_, _, _, tyX12, rfl, by decide, iX12_endings_X12, (show Cond.fieldLink RX12 1 (TX12 0).1 (TX12 0).2.1 (TX12 0).2.2.1 ∈ wsX12_endings from List.mem_of_getElem? (i := 1) rfl), tyX12_ok, nmX12, rfl, by decide +kernel⟩
theorem kX12_endings_357 : Cond.constantLong RX12 357 15 ∈ wsX12_endings := List.mem_of_getElem? (i := 2) rfl
theorem iX12_beginsRows_X12 : ∀ w ∈ wsX120, w ∈ wsX12_beginsRows := fun w h => List.mem_cons_of_mem _ (List.mem_append_left _ (List.mem_append_right _ h))
theorem fX12_beginsRows_51 : jj_F wsX12_beginsRows RX12 51 11 23 := ⟨_, _, _, rfl, by decide, iX12_beginsRows_X12, (show Cond.fieldLink RX12 51 (TX12 23).1 (TX12 23).2.1 (TX12 23).2.2.1 ∈ wsX12_beginsRows from List.mem_of_getElem? (i := 1) rfl)⟩
theorem ft_11_23 : (mm_ft 11)[23]? = some 2 := rfl
theorem sm_11_23 : s_m 11 23 = 0 := rfl
theorem fX12_beginsRows_13 : jj_F wsX12_beginsRows RX12 13 11 1 := ⟨_, _, _, rfl, by decide, iX12_beginsRows_X12, (show Cond.fieldLink RX12 13 (TX12 1).1 (TX12 1).2.1 (TX12 1).2.2.1 ∈ wsX12_beginsRows from List.mem_of_getElem? (i := 2) rfl)⟩
theorem ak_56 : s_ak 56 = 102 := rfl
theorem an_56 : s_an 56 = 256 := rfl
theorem hdX12_beginsRows : yX12_beginsRows.cls = RX12 ∧ yX12_beginsRows.cls ≠ "java/lang/invoke/MethodHandle" ∧ yX12_beginsRows.cls ≠ "java/lang/invoke/VarHandle" ∧ (parseMethodDescriptor yX12_beginsRows.desc).map (fun d => d.parameters.length) = some 0 := by decide +kernel
theorem iX12_goesRows_X12 : ∀ w ∈ wsX120, w ∈ wsX12_goesRows := fun w h => List.mem_cons_of_mem _ (List.mem_append_left _ (List.mem_append_right _ h))
theorem fX12_goesRows_55 : jj_F wsX12_goesRows RX12 55 11 24 := ⟨_, _, _, rfl, by decide, iX12_goesRows_X12, (show Cond.fieldLink RX12 55 (TX12 24).1 (TX12 24).2.1 (TX12 24).2.2.1 ∈ wsX12_goesRows from List.mem_of_getElem? (i := 1) rfl)⟩
theorem ft_11_24 : (mm_ft 11)[24]? = some 2 := rfl
theorem sm_11_24 : s_m 11 24 = 0 := rfl
theorem ak_57 : s_ak 57 = 102 := rfl
theorem an_57 : s_an 57 = 256 := rfl
theorem fX12_goesRows_13 : jj_F wsX12_goesRows RX12 13 11 1 := ⟨_, _, _, rfl, by decide, iX12_goesRows_X12, (show Cond.fieldLink RX12 13 (TX12 1).1 (TX12 1).2.1 (TX12 1).2.2.1 ∈ wsX12_goesRows from List.mem_of_getElem? (i := 2) rfl)⟩
theorem fX12_goesRows_51 : jj_F wsX12_goesRows RX12 51 11 23 := ⟨_, _, _, rfl, by decide, iX12_goesRows_X12, (show Cond.fieldLink RX12 51 (TX12 23).1 (TX12 23).2.1 (TX12 23).2.2.1 ∈ wsX12_goesRows from List.mem_of_getElem? (i := 3) rfl)⟩
theorem hdX12_goesRows : yX12_goesRows.cls = RX12 ∧ yX12_goesRows.cls ≠ "java/lang/invoke/MethodHandle" ∧ yX12_goesRows.cls ≠ "java/lang/invoke/VarHandle" ∧ (parseMethodDescriptor yX12_goesRows.desc).map (fun d => d.parameters.length) = some 2 := by decide +kernel
theorem iX12_shutRows_X12 : ∀ w ∈ wsX120, w ∈ wsX12_shutRows := fun w h => List.mem_cons_of_mem _ (List.mem_append_left _ (List.mem_append_right _ h))
theorem fX12_shutRows_51 : jj_F wsX12_shutRows RX12 51 11 23 := ⟨_, _, _, rfl, by decide, iX12_shutRows_X12, (show Cond.fieldLink RX12 51 (TX12 23).1 (TX12 23).2.1 (TX12 23).2.2.1 ∈ wsX12_shutRows from List.mem_of_getElem? (i := 1) rfl)⟩
theorem hdX12_shutRows : yX12_shutRows.cls = RX12 ∧ yX12_shutRows.cls ≠ "java/lang/invoke/MethodHandle" ∧ yX12_shutRows.cls ≠ "java/lang/invoke/VarHandle" ∧ (parseMethodDescriptor yX12_shutRows.desc).map (fun d => d.parameters.length) = some 0 := by decide +kernel
theorem kX12_endings_359 : Cond.constantLong RX12 359 (-3) ∈ wsX12_endings := List.mem_of_getElem? (i := 3) rfl
theorem iX12_needed_X12 : ∀ w ∈ wsX120, w ∈ wsX12_needed := fun w h => List.mem_cons_of_mem _ (List.mem_append_left _ (List.mem_append_right _ h))
theorem qX12_needed_1 : jj_P wsX12_needed RX12 1 11 0 (.int) := ⟨_, _, _, tyX12, rfl, by decide, iX12_needed_X12, (show Cond.fieldLink RX12 1 (TX12 0).1 (TX12 0).2.1 (TX12 0).2.2.1 ∈ wsX12_needed from List.mem_of_getElem? (i := 1) rfl), tyX12_ok, nmX12, rfl, by decide +kernel⟩
theorem fX12_needed_13 : jj_F wsX12_needed RX12 13 11 1 := ⟨_, _, _, rfl, by decide, iX12_needed_X12, (show Cond.fieldLink RX12 13 (TX12 1).1 (TX12 1).2.1 (TX12 1).2.2.1 ∈ wsX12_needed from List.mem_of_getElem? (i := 2) rfl)⟩
theorem iX12_sellable_X12 : ∀ w ∈ wsX120, w ∈ wsX12_sellable := fun w h => List.mem_cons_of_mem _ (List.mem_append_left _ (List.mem_append_right _ h))
theorem qX12_sellable_1 : jj_P wsX12_sellable RX12 1 11 0 (.int) := ⟨_, _, _, tyX12, rfl, by decide, iX12_sellable_X12, (show Cond.fieldLink RX12 1 (TX12 0).1 (TX12 0).2.1 (TX12 0).2.2.1 ∈ wsX12_sellable from List.mem_of_getElem? (i := 1) rfl), tyX12_ok, nmX12, rfl, by decide +kernel⟩
theorem iX12_laysComes_X12 : ∀ w ∈ wsX120, w ∈ wsX12_laysComes := fun w h => List.mem_cons_of_mem _ (List.mem_append_left _ (List.mem_append_right _ h))
theorem fX12_laysComes_48 : jj_F wsX12_laysComes RX12 48 11 22 := ⟨_, _, _, rfl, by decide, iX12_laysComes_X12, (show Cond.fieldLink RX12 48 (TX12 22).1 (TX12 22).2.1 (TX12 22).2.2.1 ∈ wsX12_laysComes from List.mem_of_getElem? (i := 1) rfl)⟩
theorem ft_11_22 : (mm_ft 11)[22]? = some 2 := rfl
theorem sm_11_22 : s_m 11 22 = 0 := rfl
theorem fX12_laysComes_13 : jj_F wsX12_laysComes RX12 13 11 1 := ⟨_, _, _, rfl, by decide, iX12_laysComes_X12, (show Cond.fieldLink RX12 13 (TX12 1).1 (TX12 1).2.1 (TX12 1).2.2.1 ∈ wsX12_laysComes from List.mem_of_getElem? (i := 2) rfl)⟩
theorem ak_55 : s_ak 55 = 101 := rfl
theorem an_55 : s_an 55 = 256 := rfl
theorem sb_55 (k : Nat) : s_b 55 k = (0, 1) := rfl
theorem hdX12_laysComes : yX12_laysComes.cls = RX12 ∧ yX12_laysComes.cls ≠ "java/lang/invoke/MethodHandle" ∧ yX12_laysComes.cls ≠ "java/lang/invoke/VarHandle" ∧ (parseMethodDescriptor yX12_laysComes.desc).map (fun d => d.parameters.length) = some 0 := by decide +kernel
theorem fX12_sellable_48 : jj_F wsX12_sellable RX12 48 11 22 := ⟨_, _, _, rfl, by decide, iX12_sellable_X12, (show Cond.fieldLink RX12 48 (TX12 22).1 (TX12 22).2.1 (TX12 22).2.2.1 ∈ wsX12_sellable from List.mem_of_getElem? (i := 2) rfl)⟩
theorem iX12_guards_X12 : ∀ w ∈ wsX120, w ∈ wsX12_guards := fun w h => List.mem_cons_of_mem _ (List.mem_append_left _ (List.mem_append_right _ h))
theorem qX12_guards_1 : jj_P wsX12_guards RX12 1 11 0 (.int) := ⟨_, _, _, tyX12, rfl, by decide, iX12_guards_X12, (show Cond.fieldLink RX12 1 (TX12 0).1 (TX12 0).2.1 (TX12 0).2.2.1 ∈ wsX12_guards from List.mem_of_getElem? (i := 1) rfl), tyX12_ok, nmX12, rfl, by decide +kernel⟩
theorem fX12_guards_13 : jj_F wsX12_guards RX12 13 11 1 := ⟨_, _, _, rfl, by decide, iX12_guards_X12, (show Cond.fieldLink RX12 13 (TX12 1).1 (TX12 1).2.1 (TX12 1).2.2.1 ∈ wsX12_guards from List.mem_of_getElem? (i := 2) rfl)⟩
theorem iX12_last_X12 : ∀ w ∈ wsX120, w ∈ wsX12_last := fun w h => List.mem_cons_of_mem _ (List.mem_append_left _ (List.mem_append_right _ h))
theorem qX12_last_1 : jj_P wsX12_last RX12 1 11 0 (.int) := ⟨_, _, _, tyX12, rfl, by decide, iX12_last_X12, (show Cond.fieldLink RX12 1 (TX12 0).1 (TX12 0).2.1 (TX12 0).2.2.1 ∈ wsX12_last from List.mem_of_getElem? (i := 1) rfl), tyX12_ok, nmX12, rfl, by decide +kernel⟩
theorem fX12_last_48 : jj_F wsX12_last RX12 48 11 22 := ⟨_, _, _, rfl, by decide, iX12_last_X12, (show Cond.fieldLink RX12 48 (TX12 22).1 (TX12 22).2.1 (TX12 22).2.2.1 ∈ wsX12_last from List.mem_of_getElem? (i := 2) rfl)⟩
theorem iX12_open_X12 : ∀ w ∈ wsX120, w ∈ wsX12_open := fun w h => List.mem_cons_of_mem _ (List.mem_append_left _ (List.mem_append_right _ h))
theorem qX12_open_1 : jj_P wsX12_open RX12 1 11 0 (.int) := ⟨_, _, _, tyX12, rfl, by decide, iX12_open_X12, (show Cond.fieldLink RX12 1 (TX12 0).1 (TX12 0).2.1 (TX12 0).2.2.1 ∈ wsX12_open from List.mem_of_getElem? (i := 1) rfl), tyX12_ok, nmX12, rfl, by decide +kernel⟩
theorem hdX12_isParts : yX12_isPart.cls ≠ "java/lang/invoke/MethodHandle" ∧ yX12_isPart.cls ≠ "java/lang/invoke/VarHandle" ∧ (parseMethodDescriptor yX12_isPart.desc).map (fun d => d.parameters.length) = some 1 := by decide +kernel
theorem kX12_isLate_300 : Cond.constantLong RX12 300 10 ∈ wsX12_isLate := List.mem_of_getElem? (i := 1) rfl
theorem hdX12_isLates : yX12_isLate.cls ≠ "java/lang/invoke/MethodHandle" ∧ yX12_isLate.cls ≠ "java/lang/invoke/VarHandle" ∧ (parseMethodDescriptor yX12_isLate.desc).map (fun d => d.parameters.length) = some 1 := by decide +kernel
theorem iX12_laysDays_X12 : ∀ w ∈ wsX120, w ∈ wsX12_laysDays := fun w h => List.mem_cons_of_mem _ (List.mem_append_left _ (List.mem_append_right _ h))
theorem qX12_laysDays_379 : jj_P wsX12_laysDays RX12 379 11 26 (.long) := ⟨_, _, _, tyX12, rfl, by decide, iX12_laysDays_X12, (show Cond.fieldLink RX12 379 (TX12 26).1 (TX12 26).2.1 (TX12 26).2.2.1 ∈ wsX12_laysDays from List.mem_of_getElem? (i := 1) rfl), tyX12_ok, nmX12, rfl, by decide +kernel⟩
theorem ft_11_26 : (mm_ft 11)[26]? = some 1 := rfl
theorem fX12_laysDays_58 : jj_F wsX12_laysDays RX12 58 11 25 := ⟨_, _, _, rfl, by decide, iX12_laysDays_X12, (show Cond.fieldLink RX12 58 (TX12 25).1 (TX12 25).2.1 (TX12 25).2.2.1 ∈ wsX12_laysDays from List.mem_of_getElem? (i := 2) rfl)⟩
theorem ft_11_25 : (mm_ft 11)[25]? = some 2 := rfl
theorem sm_11_25 : s_m 11 25 = 0 := rfl
theorem ak_58 : s_ak 58 = 102 := rfl
theorem an_58 : s_an 58 = 6 := rfl
theorem fX12_laysDays_55 : jj_F wsX12_laysDays RX12 55 11 24 := ⟨_, _, _, rfl, by decide, iX12_laysDays_X12, (show Cond.fieldLink RX12 55 (TX12 24).1 (TX12 24).2.1 (TX12 24).2.2.1 ∈ wsX12_laysDays from List.mem_of_getElem? (i := 3) rfl)⟩
theorem fX12_laysDays_379 : jj_F wsX12_laysDays RX12 379 11 26 := ⟨_, _, _, rfl, by decide, iX12_laysDays_X12, (show Cond.fieldLink RX12 379 (TX12 26).1 (TX12 26).2.1 (TX12 26).2.2.1 ∈ wsX12_laysDays from List.mem_of_getElem? (i := 1) rfl)⟩
theorem fX12_laysDays_51 : jj_F wsX12_laysDays RX12 51 11 23 := ⟨_, _, _, rfl, by decide, iX12_laysDays_X12, (show Cond.fieldLink RX12 51 (TX12 23).1 (TX12 23).2.1 (TX12 23).2.2.1 ∈ wsX12_laysDays from List.mem_of_getElem? (i := 4) rfl)⟩
theorem iX12_goesOdds_X12 : ∀ w ∈ wsX120, w ∈ wsX12_goesOdds := fun w h => List.mem_cons_of_mem _ (List.mem_append_left _ (List.mem_append_right _ h))
theorem fX12_goesOdds_13 : jj_F wsX12_goesOdds RX12 13 11 1 := ⟨_, _, _, rfl, by decide, iX12_goesOdds_X12, (show Cond.fieldLink RX12 13 (TX12 1).1 (TX12 1).2.1 (TX12 1).2.2.1 ∈ wsX12_goesOdds from List.mem_of_getElem? (i := 1) rfl)⟩
theorem fX12_goesOdds_51 : jj_F wsX12_goesOdds RX12 51 11 23 := ⟨_, _, _, rfl, by decide, iX12_goesOdds_X12, (show Cond.fieldLink RX12 51 (TX12 23).1 (TX12 23).2.1 (TX12 23).2.2.1 ∈ wsX12_goesOdds from List.mem_of_getElem? (i := 2) rfl)⟩
theorem hr_45_20_20 : ∀ k, k < 21 → 20 ≤ k → 0 ≤ (s_b 45 k).1 ∧ (s_b 45 k).2 ≤ 9 := by decide +kernel
theorem fX12_goesOdds_55 : jj_F wsX12_goesOdds RX12 55 11 24 := ⟨_, _, _, rfl, by decide, iX12_goesOdds_X12, (show Cond.fieldLink RX12 55 (TX12 24).1 (TX12 24).2.1 (TX12 24).2.2.1 ∈ wsX12_goesOdds from List.mem_of_getElem? (i := 3) rfl)⟩
theorem fX12_goesOdds_379 : jj_F wsX12_goesOdds RX12 379 11 26 := ⟨_, _, _, rfl, by decide, iX12_goesOdds_X12, (show Cond.fieldLink RX12 379 (TX12 26).1 (TX12 26).2.1 (TX12 26).2.2.1 ∈ wsX12_goesOdds from List.mem_of_getElem? (i := 4) rfl)⟩
theorem qX12_goesOdds_379 : jj_P wsX12_goesOdds RX12 379 11 26 (.long) := ⟨_, _, _, tyX12, rfl, by decide, iX12_goesOdds_X12, (show Cond.fieldLink RX12 379 (TX12 26).1 (TX12 26).2.1 (TX12 26).2.2.1 ∈ wsX12_goesOdds from List.mem_of_getElem? (i := 4) rfl), tyX12_ok, nmX12, rfl, by decide +kernel⟩
theorem fX12_goesOdds_58 : jj_F wsX12_goesOdds RX12 58 11 25 := ⟨_, _, _, rfl, by decide, iX12_goesOdds_X12, (show Cond.fieldLink RX12 58 (TX12 25).1 (TX12 25).2.1 (TX12 25).2.2.1 ∈ wsX12_goesOdds from List.mem_of_getElem? (i := 5) rfl)⟩
theorem hr_45_20_21 : ∀ k, k < 22 → 20 ≤ k → 0 ≤ (s_b 45 k).1 ∧ (s_b 45 k).2 ≤ 9 := by decide +kernel
theorem hr_45_20_22 : ∀ k, k < 23 → 20 ≤ k → 0 ≤ (s_b 45 k).1 ∧ (s_b 45 k).2 ≤ 9 := by decide +kernel
theorem hr_45_20_23 : ∀ k, k < 24 → 20 ≤ k → 0 ≤ (s_b 45 k).1 ∧ (s_b 45 k).2 ≤ 9 := by decide +kernel
theorem hr_45_20_24 : ∀ k, k < 25 → 20 ≤ k → 0 ≤ (s_b 45 k).1 ∧ (s_b 45 k).2 ≤ 9 := by decide +kernel
theorem hdX12_goesOdds : yX12_goesOdds.cls = RX12 ∧ yX12_goesOdds.cls ≠ "java/lang/invoke/MethodHandle" ∧ yX12_goesOdds.cls ≠ "java/lang/invoke/VarHandle" ∧ (parseMethodDescriptor yX12_goesOdds.desc).map (fun d => d.parameters.length) = some 1 := by decide +kernel
theorem hdX12_laysDays : yX12_laysDays.cls = RX12 ∧ yX12_laysDays.cls ≠ "java/lang/invoke/MethodHandle" ∧ yX12_laysDays.cls ≠ "java/lang/invoke/VarHandle" ∧ (parseMethodDescriptor yX12_laysDays.desc).map (fun d => d.parameters.length) = some 1 := by decide +kernel
theorem iX12_sumRows_X12 : ∀ w ∈ wsX120, w ∈ wsX12_sumRows := fun w h => List.mem_cons_of_mem _ (List.mem_append_left _ (List.mem_append_right _ h))
theorem fX12_sumRows_51 : jj_F wsX12_sumRows RX12 51 11 23 := ⟨_, _, _, rfl, by decide, iX12_sumRows_X12, (show Cond.fieldLink RX12 51 (TX12 23).1 (TX12 23).2.1 (TX12 23).2.2.1 ∈ wsX12_sumRows from List.mem_of_getElem? (i := 1) rfl)⟩
theorem hdX12_sumRows : yX12_sumRows.cls = RX12 ∧ yX12_sumRows.cls ≠ "java/lang/invoke/MethodHandle" ∧ yX12_sumRows.cls ≠ "java/lang/invoke/VarHandle" ∧ (parseMethodDescriptor yX12_sumRows.desc).map (fun d => d.parameters.length) = some 0 := by decide +kernel
theorem hdX12_powerOfs : yX12_powerOf.cls ≠ "java/lang/invoke/MethodHandle" ∧ yX12_powerOf.cls ≠ "java/lang/invoke/VarHandle" ∧ (parseMethodDescriptor yX12_powerOf.desc).map (fun d => d.parameters.length) = some 2 := by decide +kernel
theorem hdX12_wholeOf : yX12_wholeOf.cls = RX12 ∧ yX12_wholeOf.cls ≠ "java/lang/invoke/MethodHandle" ∧ yX12_wholeOf.cls ≠ "java/lang/invoke/VarHandle" ∧ (parseMethodDescriptor yX12_wholeOf.desc).map (fun d => d.parameters.length) = some 1 := by decide +kernel
theorem hdX12_commons : yX12_common.cls ≠ "java/lang/invoke/MethodHandle" ∧ yX12_common.cls ≠ "java/lang/invoke/VarHandle" ∧ (parseMethodDescriptor yX12_common.desc).map (fun d => d.parameters.length) = some 2 := by decide +kernel
theorem hdX12_parts : yX12_part.cls ≠ "java/lang/invoke/MethodHandle" ∧ yX12_part.cls ≠ "java/lang/invoke/VarHandle" ∧ (parseMethodDescriptor yX12_part.desc).map (fun d => d.parameters.length) = some 3 := by decide +kernel
theorem kX12_open_359 : Cond.constantLong RX12 359 (-3) ∈ wsX12_open := List.mem_of_getElem? (i := 3) rfl
theorem kX12_open_393 : Cond.constantLong RX12 393 (-2) ∈ wsX12_open := List.mem_of_getElem? (i := 2) rfl
theorem iX12_likely_X12 : ∀ w ∈ wsX120, w ∈ wsX12_likely := fun w h => List.mem_cons_of_mem _ (List.mem_append_left _ (List.mem_append_right _ h))
theorem qX12_likely_1 : jj_P wsX12_likely RX12 1 11 0 (.int) := ⟨_, _, _, tyX12, rfl, by decide, iX12_likely_X12, (show Cond.fieldLink RX12 1 (TX12 0).1 (TX12 0).2.1 (TX12 0).2.2.1 ∈ wsX12_likely from List.mem_of_getElem? (i := 1) rfl), tyX12_ok, nmX12, rfl, by decide +kernel⟩
theorem kX12_likely_304 : Cond.constantLong RX12 304 100 ∈ wsX12_likely := List.mem_of_getElem? (i := 2) rfl
theorem kX12_isMuch_304 : Cond.constantLong RX12 304 100 ∈ wsX12_isMuch := List.mem_of_getElem? (i := 1) rfl
theorem hdX12_isMuchs : yX12_isMuch.cls ≠ "java/lang/invoke/MethodHandle" ∧ yX12_isMuch.cls ≠ "java/lang/invoke/VarHandle" ∧ (parseMethodDescriptor yX12_isMuch.desc).map (fun d => d.parameters.length) = some 3 := by decide +kernel
theorem iX12_shutsBy_X12 : ∀ w ∈ wsX120, w ∈ wsX12_shutsBy := fun w h => List.mem_cons_of_mem _ (List.mem_append_left _ (List.mem_append_right _ h))
theorem qX12_shutsBy_1 : jj_P wsX12_shutsBy RX12 1 11 0 (.int) := ⟨_, _, _, tyX12, rfl, by decide, iX12_shutsBy_X12, (show Cond.fieldLink RX12 1 (TX12 0).1 (TX12 0).2.1 (TX12 0).2.2.1 ∈ wsX12_shutsBy from List.mem_of_getElem? (i := 1) rfl), tyX12_ok, nmX12, rfl, by decide +kernel⟩
theorem kX12_shutsBy_393 : Cond.constantLong RX12 393 (-2) ∈ wsX12_shutsBy := List.mem_of_getElem? (i := 2) rfl
theorem fX12_shutsBy_58 : jj_F wsX12_shutsBy RX12 58 11 25 := ⟨_, _, _, rfl, by decide, iX12_shutsBy_X12, (show Cond.fieldLink RX12 58 (TX12 25).1 (TX12 25).2.1 (TX12 25).2.2.1 ∈ wsX12_shutsBy from List.mem_of_getElem? (i := 4) rfl)⟩
theorem kX12_shutsBy_359 : Cond.constantLong RX12 359 (-3) ∈ wsX12_shutsBy := List.mem_of_getElem? (i := 3) rfl
theorem iX12_closer_X12 : ∀ w ∈ wsX120, w ∈ wsX12_closer := fun w h => List.mem_cons_of_mem _ (List.mem_append_left _ (List.mem_append_right _ h))
theorem qX12_closer_1 : jj_P wsX12_closer RX12 1 11 0 (.int) := ⟨_, _, _, tyX12, rfl, by decide, iX12_closer_X12, (show Cond.fieldLink RX12 1 (TX12 0).1 (TX12 0).2.1 (TX12 0).2.2.1 ∈ wsX12_closer from List.mem_of_getElem? (i := 1) rfl), tyX12_ok, nmX12, rfl, by decide +kernel⟩
theorem fX12_closer_13 : jj_F wsX12_closer RX12 13 11 1 := ⟨_, _, _, rfl, by decide, iX12_closer_X12, (show Cond.fieldLink RX12 13 (TX12 1).1 (TX12 1).2.1 (TX12 1).2.2.1 ∈ wsX12_closer from List.mem_of_getElem? (i := 2) rfl)⟩
theorem fX12_closer_58 : jj_F wsX12_closer RX12 58 11 25 := ⟨_, _, _, rfl, by decide, iX12_closer_X12, (show Cond.fieldLink RX12 58 (TX12 25).1 (TX12 25).2.1 (TX12 25).2.2.1 ∈ wsX12_closer from List.mem_of_getElem? (i := 3) rfl)⟩
theorem iX12_soldIn_X12 : ∀ w ∈ wsX120, w ∈ wsX12_soldIn := fun w h => List.mem_cons_of_mem _ (List.mem_append_left _ (List.mem_append_right _ h))
theorem qX12_soldIn_1 : jj_P wsX12_soldIn RX12 1 11 0 (.int) := ⟨_, _, _, tyX12, rfl, by decide, iX12_soldIn_X12, (show Cond.fieldLink RX12 1 (TX12 0).1 (TX12 0).2.1 (TX12 0).2.2.1 ∈ wsX12_soldIn from List.mem_of_getElem? (i := 1) rfl), tyX12_ok, nmX12, rfl, by decide +kernel⟩
theorem kX12_soldIn_393 : Cond.constantLong RX12 393 (-2) ∈ wsX12_soldIn := List.mem_of_getElem? (i := 2) rfl
theorem fX12_soldIn_51 : jj_F wsX12_soldIn RX12 51 11 23 := ⟨_, _, _, rfl, by decide, iX12_soldIn_X12, (show Cond.fieldLink RX12 51 (TX12 23).1 (TX12 23).2.1 (TX12 23).2.2.1 ∈ wsX12_soldIn from List.mem_of_getElem? (i := 4) rfl)⟩
theorem kX12_soldIn_359 : Cond.constantLong RX12 359 (-3) ∈ wsX12_soldIn := List.mem_of_getElem? (i := 3) rfl
theorem iX12_hides_X12 : ∀ w ∈ wsX120, w ∈ wsX12_hides := fun w h => List.mem_cons_of_mem _ (List.mem_append_left _ (List.mem_append_right _ h))
theorem qX12_hides_1 : jj_P wsX12_hides RX12 1 11 0 (.int) := ⟨_, _, _, tyX12, rfl, by decide, iX12_hides_X12, (show Cond.fieldLink RX12 1 (TX12 0).1 (TX12 0).2.1 (TX12 0).2.2.1 ∈ wsX12_hides from List.mem_of_getElem? (i := 1) rfl), tyX12_ok, nmX12, rfl, by decide +kernel⟩
theorem kX12_hides_325 : Cond.constantLong RX12 325 3 ∈ wsX12_hides := List.mem_of_getElem? (i := 2) rfl
theorem kX12_hides_416 : Cond.constantLong RX12 416 6 ∈ wsX12_hides := List.mem_of_getElem? (i := 3) rfl
theorem iX12_openBy_X12 : ∀ w ∈ wsX120, w ∈ wsX12_openBy := fun w h => List.mem_cons_of_mem _ (List.mem_append_left _ (List.mem_append_right _ h))
theorem fX12_openBy_13 : jj_F wsX12_openBy RX12 13 11 1 := ⟨_, _, _, rfl, by decide, iX12_openBy_X12, (show Cond.fieldLink RX12 13 (TX12 1).1 (TX12 1).2.1 (TX12 1).2.2.1 ∈ wsX12_openBy from List.mem_of_getElem? (i := 1) rfl)⟩
theorem hdX12_openBy : yX12_openBy.cls = RX12 ∧ yX12_openBy.cls ≠ "java/lang/invoke/MethodHandle" ∧ yX12_openBy.cls ≠ "java/lang/invoke/VarHandle" ∧ (parseMethodDescriptor yX12_openBy.desc).map (fun d => d.parameters.length) = some 2 := by decide +kernel
theorem iX12_rota_X12 : ∀ w ∈ wsX120, w ∈ wsX12_rota := fun w h => List.mem_cons_of_mem _ (List.mem_append_left _ (List.mem_append_right _ h))
theorem qX12_rota_1 : jj_P wsX12_rota RX12 1 11 0 (.int) := ⟨_, _, _, tyX12, rfl, by decide, iX12_rota_X12, (show Cond.fieldLink RX12 1 (TX12 0).1 (TX12 0).2.1 (TX12 0).2.2.1 ∈ wsX12_rota from List.mem_of_getElem? (i := 1) rfl), tyX12_ok, nmX12, rfl, by decide +kernel⟩
theorem iX12_buyersNow_X12 : ∀ w ∈ wsX120, w ∈ wsX12_buyersNow := fun w h => List.mem_cons_of_mem _ (List.mem_append_left _ (List.mem_append_right _ h))
theorem fX12_buyersNow_13 : jj_F wsX12_buyersNow RX12 13 11 1 := ⟨_, _, _, rfl, by decide, iX12_buyersNow_X12, (show Cond.fieldLink RX12 13 (TX12 1).1 (TX12 1).2.1 (TX12 1).2.2.1 ∈ wsX12_buyersNow from List.mem_of_getElem? (i := 1) rfl)⟩
theorem hdX12_buyersNow : yX12_buyersNow.cls = RX12 ∧ yX12_buyersNow.cls ≠ "java/lang/invoke/MethodHandle" ∧ yX12_buyersNow.cls ≠ "java/lang/invoke/VarHandle" ∧ (parseMethodDescriptor yX12_buyersNow.desc).map (fun d => d.parameters.length) = some 0 := by decide +kernel
theorem iX12_staysOpen_X12 : ∀ w ∈ wsX120, w ∈ wsX12_staysOpen := fun w h => List.mem_cons_of_mem _ (List.mem_append_left _ (List.mem_append_right _ h))
theorem fX12_staysOpen_13 : jj_F wsX12_staysOpen RX12 13 11 1 := ⟨_, _, _, rfl, by decide, iX12_staysOpen_X12, (show Cond.fieldLink RX12 13 (TX12 1).1 (TX12 1).2.1 (TX12 1).2.2.1 ∈ wsX12_staysOpen from List.mem_of_getElem? (i := 1) rfl)⟩
theorem hdX12_staysOpen : yX12_staysOpen.cls = RX12 ∧ yX12_staysOpen.cls ≠ "java/lang/invoke/MethodHandle" ∧ yX12_staysOpen.cls ≠ "java/lang/invoke/VarHandle" ∧ (parseMethodDescriptor yX12_staysOpen.desc).map (fun d => d.parameters.length) = some 2 := by decide +kernel
theorem iX12_earns_X12 : ∀ w ∈ wsX120, w ∈ wsX12_earns := fun w h => List.mem_cons_of_mem _ (List.mem_append_left _ (List.mem_append_right _ h))
theorem qX12_earns_1 : jj_P wsX12_earns RX12 1 11 0 (.int) := ⟨_, _, _, tyX12, rfl, by decide, iX12_earns_X12, (show Cond.fieldLink RX12 1 (TX12 0).1 (TX12 0).2.1 (TX12 0).2.2.1 ∈ wsX12_earns from List.mem_of_getElem? (i := 1) rfl), tyX12_ok, nmX12, rfl, by decide +kernel⟩
theorem kX12_earns_429 : Cond.constantLong RX12 429 8 ∈ wsX12_earns := List.mem_of_getElem? (i := 3) rfl
theorem fX12_earns_379 : jj_F wsX12_earns RX12 379 11 26 := ⟨_, _, _, rfl, by decide, iX12_earns_X12, (show Cond.fieldLink RX12 379 (TX12 26).1 (TX12 26).2.1 (TX12 26).2.2.1 ∈ wsX12_earns from List.mem_of_getElem? (i := 5) rfl)⟩
theorem kX12_earns_359 : Cond.constantLong RX12 359 (-3) ∈ wsX12_earns := List.mem_of_getElem? (i := 4) rfl
theorem kX12_earns_393 : Cond.constantLong RX12 393 (-2) ∈ wsX12_earns := List.mem_of_getElem? (i := 2) rfl
theorem iX12_bestPrice_X12 : ∀ w ∈ wsX120, w ∈ wsX12_bestPrice := fun w h => List.mem_cons_of_mem _ (List.mem_append_left _ (List.mem_append_right _ h))
theorem qX12_bestPrice_1 : jj_P wsX12_bestPrice RX12 1 11 0 (.int) := ⟨_, _, _, tyX12, rfl, by decide, iX12_bestPrice_X12, (show Cond.fieldLink RX12 1 (TX12 0).1 (TX12 0).2.1 (TX12 0).2.2.1 ∈ wsX12_bestPrice from List.mem_of_getElem? (i := 1) rfl), tyX12_ok, nmX12, rfl, by decide +kernel⟩
theorem kX12_bestPrice_431 : Cond.constantLong RX12 431 4 ∈ wsX12_bestPrice := List.mem_of_getElem? (i := 2) rfl
theorem fX12_bestPrice_13 : jj_F wsX12_bestPrice RX12 13 11 1 := ⟨_, _, _, rfl, by decide, iX12_bestPrice_X12, (show Cond.fieldLink RX12 13 (TX12 1).1 (TX12 1).2.1 (TX12 1).2.2.1 ∈ wsX12_bestPrice from List.mem_of_getElem? (i := 3) rfl)⟩
theorem kX12_bestPrice_302 : Cond.constantLong RX12 302 (-1) ∈ wsX12_bestPrice := List.mem_of_getElem? (i := 4) rfl
theorem fX12_bestPrice_379 : jj_F wsX12_bestPrice RX12 379 11 26 := ⟨_, _, _, rfl, by decide, iX12_bestPrice_X12, (show Cond.fieldLink RX12 379 (TX12 26).1 (TX12 26).2.1 (TX12 26).2.2.1 ∈ wsX12_bestPrice from List.mem_of_getElem? (i := 5) rfl)⟩
theorem iX12_seen_X12 : ∀ w ∈ wsX120, w ∈ wsX12_seen := fun w h => List.mem_cons_of_mem _ (List.mem_append_left _ (List.mem_append_right _ h))
theorem qX12_seen_1 : jj_P wsX12_seen RX12 1 11 0 (.int) := ⟨_, _, _, tyX12, rfl, by decide, iX12_seen_X12, (show Cond.fieldLink RX12 1 (TX12 0).1 (TX12 0).2.1 (TX12 0).2.2.1 ∈ wsX12_seen from List.mem_of_getElem? (i := 1) rfl), tyX12_ok, nmX12, rfl, by decide +kernel⟩
theorem iX12_noSeen_X12 : ∀ w ∈ wsX120, w ∈ wsX12_noSeen := fun w h => List.mem_cons_of_mem _ (List.mem_append_left _ (List.mem_append_right _ h))
theorem fX12_noSeen_70 : jj_F wsX12_noSeen RX12 70 11 30 := ⟨_, _, _, rfl, by decide, iX12_noSeen_X12, (show Cond.fieldLink RX12 70 (TX12 30).1 (TX12 30).2.1 (TX12 30).2.2.1 ∈ wsX12_noSeen from List.mem_of_getElem? (i := 1) rfl)⟩
theorem kX12_noSeen_433 : Cond.constantLong RX12 433 12 ∈ wsX12_noSeen := List.mem_of_getElem? (i := 2) rfl
theorem fX12_noSeen_73 : jj_F wsX12_noSeen RX12 73 11 31 := ⟨_, _, _, rfl, by decide, iX12_noSeen_X12, (show Cond.fieldLink RX12 73 (TX12 31).1 (TX12 31).2.1 (TX12 31).2.2.1 ∈ wsX12_noSeen from List.mem_of_getElem? (i := 3) rfl)⟩
theorem kX12_noSeen_300 : Cond.constantLong RX12 300 10 ∈ wsX12_noSeen := List.mem_of_getElem? (i := 4) rfl
theorem kX12_noSeen_291 : Cond.constantLong RX12 291 9 ∈ wsX12_noSeen := List.mem_of_getElem? (i := 5) rfl
theorem hdX12_noSeen : yX12_noSeen.cls = RX12 ∧ yX12_noSeen.cls ≠ "java/lang/invoke/MethodHandle" ∧ yX12_noSeen.cls ≠ "java/lang/invoke/VarHandle" ∧ (parseMethodDescriptor yX12_noSeen.desc).map (fun d => d.parameters.length) = some 1 := by decide +kernel
theorem iX12_laysSeen_X12 : ∀ w ∈ wsX120, w ∈ wsX12_laysSeen := fun w h => List.mem_cons_of_mem _ (List.mem_append_left _ (List.mem_append_right _ h))
theorem fX12_laysSeen_70 : jj_F wsX12_laysSeen RX12 70 11 30 := ⟨_, _, _, rfl, by decide, iX12_laysSeen_X12, (show Cond.fieldLink RX12 70 (TX12 30).1 (TX12 30).2.1 (TX12 30).2.2.1 ∈ wsX12_laysSeen from List.mem_of_getElem? (i := 1) rfl)⟩
theorem fX12_laysSeen_73 : jj_F wsX12_laysSeen RX12 73 11 31 := ⟨_, _, _, rfl, by decide, iX12_laysSeen_X12, (show Cond.fieldLink RX12 73 (TX12 31).1 (TX12 31).2.1 (TX12 31).2.2.1 ∈ wsX12_laysSeen from List.mem_of_getElem? (i := 2) rfl)⟩
theorem fX12_laysSeen_61 : jj_F wsX12_laysSeen RX12 61 11 27 := ⟨_, _, _, rfl, by decide, iX12_laysSeen_X12, (show Cond.fieldLink RX12 61 (TX12 27).1 (TX12 27).2.1 (TX12 27).2.2.1 ∈ wsX12_laysSeen from List.mem_of_getElem? (i := 3) rfl)⟩
theorem ft_11_27 : (mm_ft 11)[27]? = some 2 := rfl
theorem sm_11_27 : s_m 11 27 = 0 := rfl
theorem ak_59 : s_ak 59 = 100 := rfl
theorem an_59 : s_an 59 = 256 := rfl
theorem sb_59 (k : Nat) : s_b 59 k = ((-1), 255) := rfl
theorem hdX12_laysSeen : yX12_laysSeen.cls = RX12 ∧ yX12_laysSeen.cls ≠ "java/lang/invoke/MethodHandle" ∧ yX12_laysSeen.cls ≠ "java/lang/invoke/VarHandle" ∧ (parseMethodDescriptor yX12_laysSeen.desc).map (fun d => d.parameters.length) = some 1 := by decide +kernel
theorem iX12_sureGone_X12 : ∀ w ∈ wsX120, w ∈ wsX12_sureGone := fun w h => List.mem_cons_of_mem _ (List.mem_append_left _ (List.mem_append_right _ h))
theorem qX12_sureGone_1 : jj_P wsX12_sureGone RX12 1 11 0 (.int) := ⟨_, _, _, tyX12, rfl, by decide, iX12_sureGone_X12, (show Cond.fieldLink RX12 1 (TX12 0).1 (TX12 0).2.1 (TX12 0).2.2.1 ∈ wsX12_sureGone from List.mem_of_getElem? (i := 1) rfl), tyX12_ok, nmX12, rfl, by decide +kernel⟩
theorem fX12_sureGone_61 : jj_F wsX12_sureGone RX12 61 11 27 := ⟨_, _, _, rfl, by decide, iX12_sureGone_X12, (show Cond.fieldLink RX12 61 (TX12 27).1 (TX12 27).2.1 (TX12 27).2.2.1 ∈ wsX12_sureGone from List.mem_of_getElem? (i := 2) rfl)⟩
theorem iX12_ask_X12 : ∀ w ∈ wsX120, w ∈ wsX12_ask := fun w h => List.mem_cons_of_mem _ (List.mem_append_left _ (List.mem_append_right _ h))
theorem qX12_ask_1 : jj_P wsX12_ask RX12 1 11 0 (.int) := ⟨_, _, _, tyX12, rfl, by decide, iX12_ask_X12, (show Cond.fieldLink RX12 1 (TX12 0).1 (TX12 0).2.1 (TX12 0).2.2.1 ∈ wsX12_ask from List.mem_of_getElem? (i := 1) rfl), tyX12_ok, nmX12, rfl, by decide +kernel⟩
theorem kX12_ask_341 : Cond.constant RX12 341 268435456 ∈ wsX12_ask := List.mem_of_getElem? (i := 2) rfl
theorem fX12_ask_13 : jj_F wsX12_ask RX12 13 11 1 := ⟨_, _, _, rfl, by decide, iX12_ask_X12, (show Cond.fieldLink RX12 13 (TX12 1).1 (TX12 1).2.1 (TX12 1).2.2.1 ∈ wsX12_ask from List.mem_of_getElem? (i := 3) rfl)⟩
theorem iX12_mostOften_X12 : ∀ w ∈ wsX120, w ∈ wsX12_mostOften := fun w h => List.mem_cons_of_mem _ (List.mem_append_left _ (List.mem_append_right _ h))
theorem fX12_mostOften_64 : jj_F wsX12_mostOften RX12 64 11 28 := ⟨_, _, _, rfl, by decide, iX12_mostOften_X12, (show Cond.fieldLink RX12 64 (TX12 28).1 (TX12 28).2.1 (TX12 28).2.2.1 ∈ wsX12_mostOften from List.mem_of_getElem? (i := 1) rfl)⟩
theorem ft_11_28 : (mm_ft 11)[28]? = some 2 := rfl
theorem sm_11_28 : s_m 11 28 = 0 := rfl
theorem ak_60 : s_ak 60 = 100 := rfl
theorem an_60 : s_an 60 = 9 := rfl
theorem sb_60 (k : Nat) : s_b 60 k = ((-2147483648), 2147483647) := rfl
theorem fX12_mostOften_61 : jj_F wsX12_mostOften RX12 61 11 27 := ⟨_, _, _, rfl, by decide, iX12_mostOften_X12, (show Cond.fieldLink RX12 61 (TX12 27).1 (TX12 27).2.1 (TX12 27).2.2.1 ∈ wsX12_mostOften from List.mem_of_getElem? (i := 2) rfl)⟩
theorem hdX12_mostOften : yX12_mostOften.cls = RX12 ∧ yX12_mostOften.cls ≠ "java/lang/invoke/MethodHandle" ∧ yX12_mostOften.cls ≠ "java/lang/invoke/VarHandle" ∧ (parseMethodDescriptor yX12_mostOften.desc).map (fun d => d.parameters.length) = some 1 := by decide +kernel
theorem iX12_came_X12 : ∀ w ∈ wsX120, w ∈ wsX12_came := fun w h => List.mem_cons_of_mem _ (List.mem_append_left _ (List.mem_append_right _ h))
theorem qX12_came_1 : jj_P wsX12_came RX12 1 11 0 (.int) := ⟨_, _, _, tyX12, rfl, by decide, iX12_came_X12, (show Cond.fieldLink RX12 1 (TX12 0).1 (TX12 0).2.1 (TX12 0).2.2.1 ∈ wsX12_came from List.mem_of_getElem? (i := 1) rfl), tyX12_ok, nmX12, rfl, by decide +kernel⟩
theorem iX12_noGone_X12 : ∀ w ∈ wsX120, w ∈ wsX12_noGone := fun w h => List.mem_cons_of_mem _ (List.mem_append_left _ (List.mem_append_right _ h))
theorem fX12_noGone_70 : jj_F wsX12_noGone RX12 70 11 30 := ⟨_, _, _, rfl, by decide, iX12_noGone_X12, (show Cond.fieldLink RX12 70 (TX12 30).1 (TX12 30).2.1 (TX12 30).2.2.1 ∈ wsX12_noGone from List.mem_of_getElem? (i := 1) rfl)⟩
theorem kX12_noGone_300 : Cond.constantLong RX12 300 10 ∈ wsX12_noGone := List.mem_of_getElem? (i := 2) rfl
theorem fX12_noGone_73 : jj_F wsX12_noGone RX12 73 11 31 := ⟨_, _, _, rfl, by decide, iX12_noGone_X12, (show Cond.fieldLink RX12 73 (TX12 31).1 (TX12 31).2.1 (TX12 31).2.2.1 ∈ wsX12_noGone from List.mem_of_getElem? (i := 3) rfl)⟩
theorem kX12_noGone_302 : Cond.constantLong RX12 302 (-1) ∈ wsX12_noGone := List.mem_of_getElem? (i := 4) rfl
theorem hdX12_noGone : yX12_noGone.cls = RX12 ∧ yX12_noGone.cls ≠ "java/lang/invoke/MethodHandle" ∧ yX12_noGone.cls ≠ "java/lang/invoke/VarHandle" ∧ (parseMethodDescriptor yX12_noGone.desc).map (fun d => d.parameters.length) = some 1 := by decide +kernel
theorem iX12_cameBy_X12 : ∀ w ∈ wsX120, w ∈ wsX12_cameBy := fun w h => List.mem_cons_of_mem _ (List.mem_append_left _ (List.mem_append_right _ h))
theorem fX12_cameBy_70 : jj_F wsX12_cameBy RX12 70 11 30 := ⟨_, _, _, rfl, by decide, iX12_cameBy_X12, (show Cond.fieldLink RX12 70 (TX12 30).1 (TX12 30).2.1 (TX12 30).2.2.1 ∈ wsX12_cameBy from List.mem_of_getElem? (i := 1) rfl)⟩
theorem fX12_cameBy_73 : jj_F wsX12_cameBy RX12 73 11 31 := ⟨_, _, _, rfl, by decide, iX12_cameBy_X12, (show Cond.fieldLink RX12 73 (TX12 31).1 (TX12 31).2.1 (TX12 31).2.2.1 ∈ wsX12_cameBy from List.mem_of_getElem? (i := 2) rfl)⟩
theorem hdX12_cameBy : yX12_cameBy.cls = RX12 ∧ yX12_cameBy.cls ≠ "java/lang/invoke/MethodHandle" ∧ yX12_cameBy.cls ≠ "java/lang/invoke/VarHandle" ∧ (parseMethodDescriptor yX12_cameBy.desc).map (fun d => d.parameters.length) = some 3 := by decide +kernel
theorem iX12_who_X12 : ∀ w ∈ wsX120, w ∈ wsX12_who := fun w h => List.mem_cons_of_mem _ (List.mem_append_left _ (List.mem_append_right _ h))
theorem qX12_who_1 : jj_P wsX12_who RX12 1 11 0 (.int) := ⟨_, _, _, tyX12, rfl, by decide, iX12_who_X12, (show Cond.fieldLink RX12 1 (TX12 0).1 (TX12 0).2.1 (TX12 0).2.2.1 ∈ wsX12_who from List.mem_of_getElem? (i := 1) rfl), tyX12_ok, nmX12, rfl, by decide +kernel⟩
theorem fX12_who_70 : jj_F wsX12_who RX12 70 11 30 := ⟨_, _, _, rfl, by decide, iX12_who_X12, (show Cond.fieldLink RX12 70 (TX12 30).1 (TX12 30).2.1 (TX12 30).2.2.1 ∈ wsX12_who from List.mem_of_getElem? (i := 2) rfl)⟩
theorem fX12_who_13 : jj_F wsX12_who RX12 13 11 1 := ⟨_, _, _, rfl, by decide, iX12_who_X12, (show Cond.fieldLink RX12 13 (TX12 1).1 (TX12 1).2.1 (TX12 1).2.2.1 ∈ wsX12_who from List.mem_of_getElem? (i := 3) rfl)⟩
theorem iX12_numbers_X12 : ∀ w ∈ wsX120, w ∈ wsX12_numbers := fun w h => List.mem_cons_of_mem _ (List.mem_append_left _ (List.mem_append_right _ h))
theorem qX12_numbers_1 : jj_P wsX12_numbers RX12 1 11 0 (.int) := ⟨_, _, _, tyX12, rfl, by decide, iX12_numbers_X12, (show Cond.fieldLink RX12 1 (TX12 0).1 (TX12 0).2.1 (TX12 0).2.2.1 ∈ wsX12_numbers from List.mem_of_getElem? (i := 1) rfl), tyX12_ok, nmX12, rfl, by decide +kernel⟩
theorem kX12_numbers_325 : Cond.constantLong RX12 325 3 ∈ wsX12_numbers := List.mem_of_getElem? (i := 2) rfl
theorem kX12_numbers_336 : Cond.constantLong RX12 336 40 ∈ wsX12_numbers := List.mem_of_getElem? (i := 3) rfl
theorem fX12_numbers_67 : jj_F wsX12_numbers RX12 67 11 29 := ⟨_, _, _, rfl, by decide, iX12_numbers_X12, (show Cond.fieldLink RX12 67 (TX12 29).1 (TX12 29).2.1 (TX12 29).2.2.1 ∈ wsX12_numbers from List.mem_of_getElem? (i := 4) rfl)⟩
theorem fX12_numbers_70 : jj_F wsX12_numbers RX12 70 11 30 := ⟨_, _, _, rfl, by decide, iX12_numbers_X12, (show Cond.fieldLink RX12 70 (TX12 30).1 (TX12 30).2.1 (TX12 30).2.2.1 ∈ wsX12_numbers from List.mem_of_getElem? (i := 5) rfl)⟩
theorem fX12_numbers_73 : jj_F wsX12_numbers RX12 73 11 31 := ⟨_, _, _, rfl, by decide, iX12_numbers_X12, (show Cond.fieldLink RX12 73 (TX12 31).1 (TX12 31).2.1 (TX12 31).2.2.1 ∈ wsX12_numbers from List.mem_of_getElem? (i := 6) rfl)⟩
theorem iX12_write_X12 : ∀ w ∈ wsX120, w ∈ wsX12_write := fun w h => List.mem_cons_of_mem _ (List.mem_append_left _ (List.mem_append_right _ h))
theorem qX12_write_1 : jj_P wsX12_write RX12 1 11 0 (.int) := ⟨_, _, _, tyX12, rfl, by decide, iX12_write_X12, (show Cond.fieldLink RX12 1 (TX12 0).1 (TX12 0).2.1 (TX12 0).2.2.1 ∈ wsX12_write from List.mem_of_getElem? (i := 1) rfl), tyX12_ok, nmX12, rfl, by decide +kernel⟩
theorem fX12_write_70 : jj_F wsX12_write RX12 70 11 30 := ⟨_, _, _, rfl, by decide, iX12_write_X12, (show Cond.fieldLink RX12 70 (TX12 30).1 (TX12 30).2.1 (TX12 30).2.2.1 ∈ wsX12_write from List.mem_of_getElem? (i := 2) rfl)⟩
theorem fX12_write_73 : jj_F wsX12_write RX12 73 11 31 := ⟨_, _, _, rfl, by decide, iX12_write_X12, (show Cond.fieldLink RX12 73 (TX12 31).1 (TX12 31).2.1 (TX12 31).2.2.1 ∈ wsX12_write from List.mem_of_getElem? (i := 4) rfl)⟩
theorem fX12_write_67 : jj_F wsX12_write RX12 67 11 29 := ⟨_, _, _, rfl, by decide, iX12_write_X12, (show Cond.fieldLink RX12 67 (TX12 29).1 (TX12 29).2.1 (TX12 29).2.2.1 ∈ wsX12_write from List.mem_of_getElem? (i := 5) rfl)⟩
theorem hdX12_cuts : yX12_cut.cls ≠ "java/lang/invoke/MethodHandle" ∧ yX12_cut.cls ≠ "java/lang/invoke/VarHandle" ∧ (parseMethodDescriptor yX12_cut.desc).map (fun d => d.parameters.length) = some 2 := by decide +kernel
theorem kX12_write_451 : Cond.constantLong RX12 451 (-7) ∈ wsX12_write := List.mem_of_getElem? (i := 3) rfl
theorem iX12_lists_X12 : ∀ w ∈ wsX120, w ∈ wsX12_lists := fun w h => List.mem_cons_of_mem _ (List.mem_append_left _ (List.mem_append_right _ h))
theorem qX12_lists_1 : jj_P wsX12_lists RX12 1 11 0 (.int) := ⟨_, _, _, tyX12, rfl, by decide, iX12_lists_X12, (show Cond.fieldLink RX12 1 (TX12 0).1 (TX12 0).2.1 (TX12 0).2.2.1 ∈ wsX12_lists from List.mem_of_getElem? (i := 1) rfl), tyX12_ok, nmX12, rfl, by decide +kernel⟩
theorem fX12_lists_70 : jj_F wsX12_lists RX12 70 11 30 := ⟨_, _, _, rfl, by decide, iX12_lists_X12, (show Cond.fieldLink RX12 70 (TX12 30).1 (TX12 30).2.1 (TX12 30).2.2.1 ∈ wsX12_lists from List.mem_of_getElem? (i := 2) rfl)⟩
theorem fX12_lists_73 : jj_F wsX12_lists RX12 73 11 31 := ⟨_, _, _, rfl, by decide, iX12_lists_X12, (show Cond.fieldLink RX12 73 (TX12 31).1 (TX12 31).2.1 (TX12 31).2.2.1 ∈ wsX12_lists from List.mem_of_getElem? (i := 3) rfl)⟩
theorem fX12_lists_45 : jj_F wsX12_lists RX12 45 11 21 := ⟨_, _, _, rfl, by decide, iX12_lists_X12, (show Cond.fieldLink RX12 45 (TX12 21).1 (TX12 21).2.1 (TX12 21).2.2.1 ∈ wsX12_lists from List.mem_of_getElem? (i := 4) rfl)⟩
theorem iX12_count_X12 : ∀ w ∈ wsX120, w ∈ wsX12_count := fun w h => List.mem_cons_of_mem _ (List.mem_append_left _ (List.mem_append_right _ h))
theorem qX12_count_1 : jj_P wsX12_count RX12 1 11 0 (.int) := ⟨_, _, _, tyX12, rfl, by decide, iX12_count_X12, (show Cond.fieldLink RX12 1 (TX12 0).1 (TX12 0).2.1 (TX12 0).2.2.1 ∈ wsX12_count from List.mem_of_getElem? (i := 1) rfl), tyX12_ok, nmX12, rfl, by decide +kernel⟩
theorem fX12_count_13 : jj_F wsX12_count RX12 13 11 1 := ⟨_, _, _, rfl, by decide, iX12_count_X12, (show Cond.fieldLink RX12 13 (TX12 1).1 (TX12 1).2.1 (TX12 1).2.2.1 ∈ wsX12_count from List.mem_of_getElem? (i := 2) rfl)⟩
theorem fX12_count_80 : jj_F wsX12_count RX12 80 11 5 := ⟨_, _, _, rfl, by decide, iX12_count_X12, (show Cond.fieldLink RX12 80 (TX12 5).1 (TX12 5).2.1 (TX12 5).2.2.1 ∈ wsX12_count from List.mem_of_getElem? (i := 3) rfl)⟩
end
