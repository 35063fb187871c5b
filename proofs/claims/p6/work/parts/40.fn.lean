/-! FUNCTIONS of the reference: what its methods answer, over the row all[] (f) -/
theorem FR.cell {S : List Nat} {M N : mm_M} (h : FR S M N) {i : Nat} (hi : i ∉ S) : N.1 i = M.1 i := funext fun k => h.1 i k hi
theorem wI_cell {M M' : mm_M} {i k j : Nat} {v : Int32} (e : M' = wI M i k v) (h : j ≠ i) : M'.1 j = M.1 j := by rw [e]; funext b; exact u2_a _ _ h
theorem wJ_cell {M M' : mm_M} {i k j : Nat} {v : Int64} (e : M' = wJ M i k v) : M'.1 j = M.1 j := by rw [e]
theorem wP_cell {M M' : mm_M} {i k j v : Nat} (e : M' = wP M i k v) : M'.1 j = M.1 j := by rw [e]
def evF (f : Nat → Int32) : Int := pw2 (f 26).toInt - 1
def snF (f : Nat → Int32) : Int := andI (evF f) (-1 - (f 28).toInt)
def shF (f : Nat → Int32) (s : Int) : Int := if andI (snF f) (-1 - s) = 0 then 1 else 0
theorem shF_s (f : Nat → Int32) (s : Int) : andI (snF f) (-1 - s) = 0 ∧ shF f s = 1 ∨ ¬ andI (snF f) (-1 - s) = 0 ∧ shF f s = 0 := by
  unfold shF; split <;> simp [*]
def iiF (a b : Int) : Int := if andJ (shrJ a b) 1 = 1 then 1 else 0
theorem iiF_s (a b : Int) : andJ (shrJ a b) 1 = 1 ∧ iiF a b = 1 ∨ ¬ andJ (shrJ a b) 1 = 1 ∧ iiF a b = 0 := by
  unfold iiF; split <;> simp [*]
def bsF (s : Int) : Nat → Int
  | 0 => 0
  | k + 1 => bsF s k + andI (shrI s (k : Int)) 1
theorem bsF_s (s k : Int) (h : 0 ≤ k) : bsF s (k + 1).toNat = bsF s k.toNat + andI (shrI s k) 1 := by
  have e : (k + 1).toNat = k.toNat + 1 := by omega
  rw [e, bsF, Int.toNat_of_nonneg h]
def clF (v : Int) : Int := if 1000000 < v then 1000000 else if v < -1000000 then -1000000 else v
theorem clF_s (v : Int) : 1000000 < v ∧ clF v = 1000000 ∨ ¬ 1000000 < v ∧ v < -1000000 ∧ clF v = -1000000 ∨ ¬ 1000000 < v ∧ ¬ v < -1000000 ∧ clF v = v := by
  unfold clF; (repeat' split) <;> omega
def btF (c a b : Int) : Int := if c = 3003 then (if a = b then 1 else 0) else if c = 3004 then (if a < b then 1 else 0) else if c = 3005 then (if b < a then 1 else 0) else if c = 3007 then andI a b else if c = 3008 then orI a b else if c = 3000 then clF (a + b) else if c = 3001 then clF (a - b) else clF (mulJ a b)
theorem btF_s (c a b : Int) : c = 3003 ∧ (a = b ∧ btF c a b = 1 ∨ ¬ a = b ∧ btF c a b = 0) ∨ c = 3004 ∧ (a < b ∧ btF c a b = 1 ∨ ¬ a < b ∧ btF c a b = 0) ∨ c = 3005 ∧ (b < a ∧ btF c a b = 1 ∨ ¬ b < a ∧ btF c a b = 0) ∨ c = 3007 ∧ btF c a b = andI a b ∨ c = 3008 ∧ btF c a b = orI a b ∨ c = 3000 ∧ btF c a b = clF (a + b) ∨ c = 3001 ∧ btF c a b = clF (a - b) ∨ (¬ c = 3003 ∧ ¬ c = 3004 ∧ ¬ c = 3005 ∧ ¬ c = 3007 ∧ ¬ c = 3008 ∧ ¬ c = 3000 ∧ ¬ c = 3001) ∧ btF c a b = clF (mulJ a b) := by
  by_cases h1 : c = 3003
  · have e : btF c a b = if a = b then 1 else 0 := by unfold btF; rw [if_pos h1]
    left; refine ⟨h1, ?_⟩
    by_cases q : a = b
    · left; exact ⟨q, by rw [e, if_pos q]⟩
    · right; exact ⟨q, by rw [e, if_neg q]⟩
  by_cases h2 : c = 3004
  · have e : btF c a b = if a < b then 1 else 0 := by unfold btF; rw [if_neg h1, if_pos h2]
    right; left; refine ⟨h2, ?_⟩
    by_cases q : a < b
    · left; exact ⟨q, by rw [e, if_pos q]⟩
    · right; exact ⟨q, by rw [e, if_neg q]⟩
  by_cases h3 : c = 3005
  · have e : btF c a b = if b < a then 1 else 0 := by unfold btF; rw [if_neg h1, if_neg h2, if_pos h3]
    right; right; left; refine ⟨h3, ?_⟩
    by_cases q : b < a
    · left; exact ⟨q, by rw [e, if_pos q]⟩
    · right; exact ⟨q, by rw [e, if_neg q]⟩
  by_cases h4 : c = 3007
  · right; right; right; left; exact ⟨h4, by unfold btF; rw [if_neg h1, if_neg h2, if_neg h3, if_pos h4]⟩
  by_cases h5 : c = 3008
  · right; right; right; right; left; exact ⟨h5, by unfold btF; rw [if_neg h1, if_neg h2, if_neg h3, if_neg h4, if_pos h5]⟩
  by_cases h6 : c = 3000
  · right; right; right; right; right; left; exact ⟨h6, by unfold btF; rw [if_neg h1, if_neg h2, if_neg h3, if_neg h4, if_neg h5, if_pos h6]⟩
  by_cases h7 : c = 3001
  · right; right; right; right; right; right; left; exact ⟨h7, by unfold btF; rw [if_neg h1, if_neg h2, if_neg h3, if_neg h4, if_neg h5, if_neg h6, if_pos h7]⟩
  right; right; right; right; right; right; right
  exact ⟨⟨h1, h2, h3, h4, h5, h6, h7⟩, by unfold btF; rw [if_neg h1, if_neg h2, if_neg h3, if_neg h4, if_neg h5, if_neg h6, if_neg h7]⟩
/-- the words of a law, by their places -/
def wdF (f : Nat → Int32) (b k s : Int) (j : Nat) : Int := if j = 0 then b else if j = 1 then (f (8 + b).toNat).toInt else if j = 2 then (f (14 + b).toNat).toInt else if j = 3 then k else if j = 4 then (f (33 + k).toNat).toInt else if j = 5 then (f (41 + k).toNat).toInt else if j = 6 then bsF s (8 : Int).toNat else andI (shrI s k) 1
def pvF (W : Nat → Int) (c : Int) : Int := if c < 1000 then c else W (c - 1000).toNat
theorem pvF_s (W : Nat → Int) (c : Int) : c < 1000 ∧ pvF W c = c ∨ ¬ c < 1000 ∧ pvF W c = W (c - 1000).toNat := by
  unfold pvF; split <;> simp [*]
def uI (g : Nat → Int) (n : Nat) (v : Int) : Nat → Int := fun j => if j = n then v else g j
/-- one sign of a law's code, over a stack -/
def rkT (W : Nat → Int) (c : Int) (p : Int × (Nat → Int)) : Int × (Nat → Int) :=
  if c < 3000 then (p.1 + 1, uI p.2 p.1.toNat (pvF W c)) else if c = 3006 then (p.1, uI p.2 (p.1 - 1).toNat (subI 1 (p.2 (p.1 - 1).toNat))) else (p.1 - 1, uI p.2 (p.1 - 1 - 1).toNat (btF c (p.2 (p.1 - 1 - 1).toNat) (p.2 (p.1 - 1).toNat)))
def rkS (f : Nat → Int32) (W : Nat → Int) (o : Int) : Nat → Int × (Nat → Int)
  | 0 => (0, fun _ => 0)
  | i + 1 => rkT W (f (o + (i : Int)).toNat).toInt (rkS f W o i)
theorem rkS_s (f : Nat → Int32) (W : Nat → Int) (o i : Int) (h : 0 ≤ i) : rkS f W o (i + 1).toNat = rkT W (f (o + i).toNat).toInt (rkS f W o i.toNat) := by
  have e : (i + 1).toNat = i.toNat + 1 := by omega
  rw [e, rkS, Int.toNat_of_nonneg h]
def dqF (f : Nat → Int32) (o : Int) : Nat → Int
  | 0 => 0
  | i + 1 => if (f (o + (i : Int)).toNat).toInt < 3000 then dqF f o i + 1 else if (f (o + (i : Int)).toNat).toInt = 3006 then dqF f o i else dqF f o i - 1
theorem rkS_1 (f : Nat → Int32) (W : Nat → Int) (o : Int) : ∀ n, (rkS f W o n).1 = dqF f o n
  | 0 => rfl
  | n + 1 => by
    rw [rkS, dqF, rkT]
    split
    · simp only []; rw [rkS_1 f W o n]
    · split
      · simp only []; rw [rkS_1 f W o n]
      · simp only []; rw [rkS_1 f W o n]
def okc (c d : Int) : Prop := c < 3000 ∧ 0 ≤ c ∧ c ≤ 1007 ∨ c = 3006 ∧ 1 ≤ d ∨ 3000 ≤ c ∧ ¬ c = 3006 ∧ 2 ≤ d
/-- a law's code is well formed: from o on, n signs -/
def zwS (f : Nat → Int32) (o : Int) (n : Int) : Prop := ∀ i : Nat, (i : Int) < n → okc (f (o + (i : Int)).toNat).toInt (dqF f o i)
def zwL (f : Nat → Int32) (l : Nat) : Prop := (f (4 + l)).toInt + (f (6 + l)).toInt ≤ 900 ∧ zwS f (281 + (f (4 + l)).toInt) (f (6 + l)).toInt ∧ ((f (2 + l)).toInt = 0 ∨ 1 ≤ dqF f (281 + (f (4 + l)).toInt) (f (6 + l)).toInt.toNat)
def zwB (f : Nat → Int32) : Prop := zwL f 0 ∧ zwL f 1
def CWK (pr : Nat → Nat → Bool) (Kz : mm_M) : Prop := ∀ N, INV pr Kz N → zwB (N.1 99)
theorem rk_at {f : Nat → Int32} {o n : Int} (W : Nat → Int) (h : zwS f o n) (i : Int) (h0 : 0 ≤ i) (h1 : i < n) : let c := (f (o + i).toNat).toInt; let d := (rkS f W o i.toNat).1; let d' := (rkS f W o (i + 1).toNat).1; c < 3000 ∧ 0 ≤ c ∧ c ≤ 1007 ∧ d' = d + 1 ∨ c = 3006 ∧ 1 ≤ d ∧ d' = d ∨ 3000 ≤ c ∧ ¬ c = 3006 ∧ 2 ≤ d ∧ d' = d - 1 := by
  intro c d d'
  have hq := h i.toNat (by omega)
  rw [Int.toNat_of_nonneg h0, ← rkS_1 f W o i.toNat] at hq
  have e : d' = (rkT W c (rkS f W o i.toNat)).1 := by show (rkS f W o (i + 1).toNat).1 = _; rw [rkS_s f W o i h0]
  unfold rkT at e
  rcases hq with hq | hq | hq
  · left; rw [if_pos hq.1] at e; exact ⟨hq.1, hq.2.1, hq.2.2, e⟩
  · right; left
    rw [if_neg (by omega), if_pos hq.1] at e; exact ⟨hq.1, hq.2, e⟩
  · right; right
    rw [if_neg (by omega), if_neg hq.2.1] at e; exact ⟨hq.1, hq.2.1, hq.2.2, e⟩
def stOK (M : mm_M) (p : Int × (Nat → Int)) : Prop := ∀ j : Nat, (j : Int) < p.1 → (M.1 103 j).toInt = p.2 j
def wdOK (M : mm_M) (W : Nat → Int) : Prop := ∀ j : Nat, j < 8 → (M.1 104 j).toInt = W j
theorem wd_get {M : mm_M} {W : Nat → Int} (h : b01 (wdOK M W) = 1) (j : Int) (h0 : 0 ≤ j) (h1 : j < 8) : (M.1 104 j.toNat).toInt = W j.toNat := b01_e h j.toNat (by omega)
theorem wd_keep {M M' : mm_M} {W : Nat → Int} {k : Nat} {v : Int32} (e : M' = wI M 103 k v) (h : b01 (wdOK M W) = 1) : b01 (wdOK M' W) = 1 := b01_i (by
  intro j hj
  rw [wI_cell e (show (104 : Nat) ≠ 103 by decide)]
  exact b01_e h j hj)
theorem st_upd {M M' : mm_M} {n v : Int} {k : Nat} (e : M' = wI M 103 k (sI v)) (hv : -2147483648 ≤ v ∧ v ≤ 2147483647) {g : Nat → Int} (h : ∀ j : Nat, (j : Int) < n → j ≠ k → (M.1 103 j).toInt = g j) : ∀ j : Nat, (j : Int) < n → (M'.1 103 j).toInt = uI g k v j := by
  intro j hj
  unfold uI
  by_cases q : j = k
  · subst q; rw [if_pos rfl, s_wr e hv]
  · rw [if_neg q, e]
    show (u2 M.1 103 k (sI v) 103 j).toInt = _
    rw [u2_b _ _ q]; exact h j hj q
theorem st_push {M M' : mm_M} {f : Nat → Int32} {W : Nat → Int} {o i n v : Int} (e : M' = wI M 103 n.toNat (sI v)) (h : b01 (stOK M (rkS f W o i.toNat)) = 1) (q : (-2147483648 ≤ v ∧ v ≤ 2147483647) ∧ 0 ≤ i ∧ 0 ≤ n ∧ n = (rkS f W o i.toNat).1 ∧ (f (o + i).toNat).toInt < 3000 ∧ v = pvF W (f (o + i).toNat).toInt) : b01 (stOK M' (rkS f W o (i + 1).toNat)) = 1 := b01_i (by
  rw [rkS_s f W o i q.2.1]
  unfold rkT stOK
  rw [if_pos q.2.2.2.2.1]
  rw [← q.2.2.2.2.2, ← q.2.2.2.1]
  exact st_upd e q.1 (fun j hj hne => b01_e h j (by rw [← q.2.2.2.1]; simp only [] at hj; omega)))
theorem st_not {M M' : mm_M} {f : Nat → Int32} {W : Nat → Int} {o i n : Int} (e : M' = wI M 103 (n - 1).toNat (sI (subI 1 (M.1 103 (n - 1).toNat).toInt))) (h : b01 (stOK M (rkS f W o i.toNat)) = 1) (q : 0 ≤ i ∧ 1 ≤ n ∧ n = (rkS f W o i.toNat).1 ∧ (f (o + i).toNat).toInt = 3006) : b01 (stOK M' (rkS f W o (i + 1).toNat)) = 1 := b01_i (by
  have h2 := b01_e h
  rw [rkS_s f W o i q.1]
  unfold rkT stOK
  rw [if_neg (by omega), if_pos q.2.2.2]
  rw [← q.2.2.1]
  have e2 : (rkS f W o i.toNat).2 (n - 1).toNat = (M.1 103 (n - 1).toNat).toInt := (h2 _ (by rw [← q.2.2.1]; omega)).symm
  rw [e2]
  exact st_upd e (sI_r _) (fun j hj hne => h2 j (by rw [← q.2.2.1]; exact hj)))
theorem st_bin {M M' : mm_M} {f : Nat → Int32} {W : Nat → Int} {o i n v : Int} (e : M' = wI M 103 (n - 1).toNat (sI v)) (h : b01 (stOK M (rkS f W o i.toNat)) = 1) (q : (-2147483648 ≤ v ∧ v ≤ 2147483647) ∧ 0 ≤ i ∧ 1 ≤ n ∧ n + 1 = (rkS f W o i.toNat).1 ∧ 3000 ≤ (f (o + i).toNat).toInt ∧ ¬ (f (o + i).toNat).toInt = 3006) (q7 : v = btF (f (o + i).toNat).toInt (M.1 103 (n - 1).toNat).toInt (M.1 103 n.toNat).toInt) : b01 (stOK M' (rkS f W o (i + 1).toNat)) = 1 := b01_i (by
  have h2 := b01_e h
  obtain ⟨q1, q2, q3, q4, q5, q6⟩ := q
  rw [rkS_s f W o i q2]
  unfold rkT stOK
  rw [if_neg (by omega), if_neg q6]
  rw [← q4]
  rw [show n + 1 - 1 - 1 = n - 1 by omega, show n + 1 - 1 = n by omega]
  have e1 : (rkS f W o i.toNat).2 n.toNat = (M.1 103 n.toNat).toInt := (h2 _ (by rw [← q4]; omega)).symm
  have e2 : (rkS f W o i.toNat).2 (n - 1).toNat = (M.1 103 (n - 1).toNat).toInt := (h2 _ (by rw [← q4]; omega)).symm
  rw [e1, e2, ← q7]
  exact st_upd e q1 (fun j hj hne => h2 j (by rw [← q4]; simp only [] at hj; omega)))
theorem st_get {M : mm_M} {p : Int × (Nat → Int)} (h : b01 (stOK M p) = 1) (h1 : 1 ≤ p.1) : (M.1 103 0).toInt = p.2 0 := b01_e h 0 (by omega)
theorem st_0 (M : mm_M) (f : Nat → Int32) (W : Nat → Int) (o : Int) : b01 (stOK M (rkS f W o (0 : Int).toNat)) = 1 ∧ (rkS f W o (0 : Int).toNat).1 = 0 := ⟨b01_i (fun j hj => absurd hj (by show ¬ (j : Int) < 0; omega)), rfl⟩
def rkF (f : Nat → Int32) (l : Nat) (b k s : Int) : Int := (rkS f (wdF f b k s) (281 + (f (4 + l)).toInt) (f (6 + l)).toInt.toNat).2 0
def wtF (f : Nat → Int32) (b k s : Int) : Int := if (f 2).toInt = 0 then subI (f (8 + b).toNat).toInt (f (33 + k).toNat).toInt else rkF f 0 b k s
theorem wtF_s (f : Nat → Int32) (b k s : Int) : (f 2).toInt = 0 ∧ wtF f b k s = subI (f (8 + b).toNat).toInt (f (33 + k).toNat).toInt ∨ ¬ (f 2).toInt = 0 ∧ wtF f b k s = rkF f 0 b k s := by
  unfold wtF; split <;> simp [*]
def mbF (f : Nat → Int32) (b k s : Int) : Int := if iiF (f 28).toInt k = 0 ∧ (f (33 + k).toNat).toInt ≤ (f (8 + b).toNat).toInt ∧ ((f 3).toInt = 0 ∨ rkF f 1 b k s = 1) then 1 else 0
theorem mbF_s (f : Nat → Int32) (b k s : Int) : (iiF (f 28).toInt k = 0 ∧ (f (33 + k).toNat).toInt ≤ (f (8 + b).toNat).toInt ∧ ((f 3).toInt = 0 ∨ rkF f 1 b k s = 1)) ∧ mbF f b k s = 1 ∨ ¬ (iiF (f 28).toInt k = 0 ∧ (f (33 + k).toNat).toInt ≤ (f (8 + b).toNat).toInt ∧ ((f 3).toInt = 0 ∨ rkF f 1 b k s = 1)) ∧ mbF f b k s = 0 := by
  unfold mbF; split
  · left; exact ⟨‹_›, rfl⟩
  · right; exact ⟨‹_›, rfl⟩
def boT (f : Nat → Int32) (b s k : Int) (p : Int × Int) : Int × Int := if shF f s = 1 then p else if p.2 < (if mbF f b k s = 0 then 0 else wtF f b k s) then (k, if mbF f b k s = 0 then 0 else wtF f b k s) else p
def boS (f : Nat → Int32) (b s : Int) : Nat → Int × Int
  | 0 => (-1, 0)
  | k + 1 => boT f b s (k : Int) (boS f b s k)
def boF (f : Nat → Int32) (b s : Int) : Int := (boS f b s (f 26).toInt.toNat).1
theorem bo_step (f : Nat → Int32) (b s k : Int) (h : 0 ≤ k) : let p := boS f b s k.toNat; let p' := boS f b s (k + 1).toNat; shF f s = 1 ∨ mbF f b k s = 0 ∧ p.2 < 0 ∧ p'.1 = k ∧ p'.2 = 0 ∨ mbF f b k s = 0 ∧ 0 ≤ p.2 ∧ p'.1 = p.1 ∧ p'.2 = p.2 ∨ ¬ mbF f b k s = 0 ∧ p.2 < wtF f b k s ∧ p'.1 = k ∧ p'.2 = wtF f b k s ∨ ¬ mbF f b k s = 0 ∧ wtF f b k s ≤ p.2 ∧ p'.1 = p.1 ∧ p'.2 = p.2 := by
  intro p p'
  have e : p' = boT f b s k p := by
    show boS f b s (k + 1).toNat = _
    have e1 : (k + 1).toNat = k.toNat + 1 := by omega
    rw [e1, boS, Int.toNat_of_nonneg h]
  by_cases h1 : shF f s = 1
  · exact Or.inl h1
  · right
    unfold boT at e
    rw [if_neg h1] at e
    by_cases h2 : mbF f b k s = 0
    · rw [if_pos h2] at e
      by_cases h3 : p.2 < 0
      · rw [if_pos h3] at e; left; rw [e]; exact ⟨h2, h3, rfl, rfl⟩
      · rw [if_neg h3] at e; right; left; rw [e]; exact ⟨h2, by omega, rfl, rfl⟩
    · rw [if_neg h2] at e
      by_cases h3 : p.2 < wtF f b k s
      · rw [if_pos h3] at e; right; right; left; rw [e]; exact ⟨h2, h3, rfl, rfl⟩
      · rw [if_neg h3] at e; right; right; right; rw [e]; exact ⟨h2, by omega, rfl, rfl⟩
theorem bo_shut (f : Nat → Int32) (b s : Int) (h : shF f s = 1) : ∀ n, boS f b s n = (-1, 0)
  | 0 => rfl
  | n + 1 => by rw [boS, boT, if_pos h, bo_shut f b s h n]
theorem bo_end (f : Nat → Int32) (b s k : Int) (h : 0 ≤ k ∧ (k = (f 26).toInt ∨ shF f s = 1)) : (boS f b s k.toNat).1 = boF f b s := by
  rcases h.2 with h | h
  · rw [h]; rfl
  · unfold boF; rw [bo_shut f b s h, bo_shut f b s h]
theorem bo_0 (f : Nat → Int32) (b s : Int) : (boS f b s (0 : Int).toNat).1 = -1 ∧ (boS f b s (0 : Int).toNat).2 = 0 := ⟨rfl, rfl⟩
def bnF (f : Nat → Int32) (b : Int) : Int := boF f b (f 27).toInt
theorem wd_of {M0 M1 M2 M3 M4 M5 M6 M7 M8 : mm_M} {v0 v1 v2 v3 v4 v5 v6 v7 : Int} {W : Nat → Int} (e0 : M1 = wI M0 104 0 (sI v0)) (e1 : M2 = wI M1 104 1 (sI v1)) (e2 : M3 = wI M2 104 2 (sI v2)) (e3 : M4 = wI M3 104 3 (sI v3)) (e4 : M5 = wI M4 104 4 (sI v4)) (e5 : M6 = wI M5 104 5 (sI v5)) (e6 : M7 = wI M6 104 6 (sI v6)) (e7 : M8 = wI M7 104 7 (sI v7)) (q0 : v0 = W 0) (q1 : v1 = W 1) (q2 : v2 = W 2) (q3 : v3 = W 3) (q4 : v4 = W 4) (q5 : v5 = W 5) (q6 : v6 = W 6) (q7 : v7 = W 7) (r : (-2147483648 ≤ v0 ∧ v0 ≤ 2147483647) ∧ (-2147483648 ≤ v1 ∧ v1 ≤ 2147483647) ∧ (-2147483648 ≤ v2 ∧ v2 ≤ 2147483647) ∧ (-2147483648 ≤ v3 ∧ v3 ≤ 2147483647) ∧ (-2147483648 ≤ v4 ∧ v4 ≤ 2147483647) ∧ (-2147483648 ≤ v5 ∧ v5 ≤ 2147483647) ∧ (-2147483648 ≤ v6 ∧ v6 ≤ 2147483647) ∧ (-2147483648 ≤ v7 ∧ v7 ≤ 2147483647)) : b01 (wdOK M8 W) = 1 := b01_i (by
  obtain ⟨r0, r1, r2, r3, r4, r5, r6, r7⟩ := r
  intro j hj
  have st : ∀ {M M' : mm_M} {k : Nat} {v : Int32}, M' = wI M 104 k v → j ≠ k → (M'.1 104 j).toInt = (M.1 104 j).toInt := by
    intro M M' k v e hne
    rw [e]; show (u2 M.1 104 k v 104 j).toInt = _; rw [u2_b _ _ hne]
  rcases (show j = 0 ∨ j = 1 ∨ j = 2 ∨ j = 3 ∨ j = 4 ∨ j = 5 ∨ j = 6 ∨ j = 7 by omega) with rfl | rfl | rfl | rfl | rfl | rfl | rfl | rfl
  · rw [st e7 (by decide), st e6 (by decide), st e5 (by decide), st e4 (by decide), st e3 (by decide), st e2 (by decide), st e1 (by decide), s_wr e0 r0, q0]
  · rw [st e7 (by decide), st e6 (by decide), st e5 (by decide), st e4 (by decide), st e3 (by decide), st e2 (by decide), s_wr e1 r1, q1]
  · rw [st e7 (by decide), st e6 (by decide), st e5 (by decide), st e4 (by decide), st e3 (by decide), s_wr e2 r2, q2]
  · rw [st e7 (by decide), st e6 (by decide), st e5 (by decide), st e4 (by decide), s_wr e3 r3, q3]
  · rw [st e7 (by decide), st e6 (by decide), st e5 (by decide), s_wr e4 r4, q4]
  · rw [st e7 (by decide), st e6 (by decide), s_wr e5 r5, q5]
  · rw [st e7 (by decide), s_wr e6 r6, q6]
  · rw [s_wr e7 r7, q7])
/-- all[] is as it was but for one place -/
def AE (p : Nat) (M N : mm_M) : Prop := ∀ k, k ≠ p → N.1 99 k = M.1 99 k
theorem AE_w {M M' : mm_M} {p : Nat} {v : Int32} (e : M' = wI M 99 p v) : b01 (AE p M M') = 1 := b01_i (by
  intro k hk; rw [e]; exact u2_b (i := 99) (a := 99) M.1 v hk)
def psF (f : Nat → Int32) : Nat → Int
  | 0 => 0
  | n + 1 => psF f n + (f (20 + (n : Int)).toNat).toInt
theorem psF_s (f : Nat → Int32) (k : Int) (h : 0 ≤ k) : psF f (k + 1).toNat = psF f k.toNat + (f (20 + k).toNat).toInt := by
  have e : (k + 1).toNat = k.toNat + 1 := by omega
  rw [e, psF, Int.toNat_of_nonneg h]
theorem psF_c {f g : Nat → Int32} : ∀ n : Nat, n ≤ 6 → (∀ k, 20 ≤ k → k ≤ 25 → f k = g k) → psF f n = psF g n
  | 0, _, _ => rfl
  | n + 1, hn, h => by
    rw [psF, psF, psF_c n (by omega) h, h (20 + (n : Int)).toNat (by omega) (by omega)]
theorem AE_ps {M N : mm_M} (h : b01 (AE 32 M N) = 1) (hb : 0 ≤ (M.1 99 1).toInt ∧ (M.1 99 1).toInt ≤ 6) : psF (N.1 99) (N.1 99 1).toInt.toNat = psF (M.1 99) (M.1 99 1).toInt.toNat ∧ (N.1 99 1).toInt = (M.1 99 1).toInt := by
  have h2 := b01_e h
  rw [h2 1 (by decide)]
  exact ⟨psF_c _ (by omega) (fun k h3 h4 => h2 k (by omega)), rfl⟩
theorem psF_lt {f : Nat → Int32} {l b n : Int} (h : l + psF f b.toNat < psF f n.toNat) (h0 : 0 ≤ l) (h1 : b ≤ n) : b < n := by
  rcases (show b < n ∨ b = n by omega) with q | q
  · exact q
  · subst q; omega
/-- the tray's numbers are sights: buyers of the shop, kinds or none -/
def snP (M : mm_M) (t n : Int) : Prop := ∀ i : Int, 0 ≤ i → i < n → 0 ≤ (M.2.1 117 (40 * t + i).toNat).toInt ∧ (M.2.1 117 (40 * t + i).toNat).toInt ≤ 59
theorem sn_0 (M : mm_M) (t : Int) : b01 (snP M t 0) = 1 := b01_i (fun i h0 h1 => absurd h1 (by omega))
theorem sn_s {M : mm_M} {t n : Int} (h : b01 (snP M t n) = 1) (h1 : 0 ≤ (M.2.1 117 (40 * t + n).toNat).toInt ∧ (M.2.1 117 (40 * t + n).toNat).toInt ≤ 59) : b01 (snP M t (n + 1)) = 1 := b01_i (by
  intro i h0 hi
  rcases (show i < n ∨ i = n by omega) with q | q
  · exact b01_e h i h0 q
  · subst q; exact h1)
theorem sn_g {M : mm_M} {t n : Int} (h : b01 (snP M t n) = 1) (i : Int) (h0 : 0 ≤ i ∧ i < n) : 0 ≤ (M.2.1 117 (40 * t + i).toNat).toInt ∧ (M.2.1 117 (40 * t + i).toNat).toInt ≤ 59 := b01_e h i h0.1 h0.2
theorem bk_w (n k : Nat) (h : k < 23) (hn : n < 10) : bz (50 + 23 * n + k) = bk k := by
  unfold bz
  rw [if_neg (by omega), if_neg (by omega), if_neg (by omega), if_neg (by omega), if_neg (by omega), if_pos (by omega)]
  congr 1; omega
theorem bk_k (k : Nat) (h : k < 23) : bz (26 + k) = bk k := by
  unfold bz
  rw [if_neg (by omega), if_neg (by omega), if_neg (by omega), if_pos (by omega)]
  congr 1; omega
theorem b45 (k : Nat) : s_b 45 k = bz (k % 1181) := rfl
theorem b51 (k : Nat) : s_b 51 k = bk k := rfl
theorem q_k (x : Int) (h : 0 ≤ x ∧ x < 23) : s_b 45 (26 + x).toNat = s_b 51 x.toNat := by
  rw [b45, b51, Nat.mod_eq_of_lt (by omega), show (26 + x).toNat = 26 + x.toNat by omega, bk_k _ (by omega)]
theorem q_w (n x : Int) (h : 0 ≤ x ∧ x < 23 ∧ 0 ≤ n ∧ n < 10) : s_b 45 (50 + 23 * n + x).toNat = s_b 51 x.toNat := by
  rw [b45, b51, Nat.mod_eq_of_lt (by omega), show (50 + 23 * n + x).toNat = 50 + 23 * n.toNat + x.toNat by omega, bk_w _ _ (by omega) (by omega)]
theorem q_s (x : Int) (h : 0 ≤ x ∧ x < 207) : s_b 45 (50 + x).toNat = s_b 45 (73 + x).toNat := by
  rw [b45, b45, Nat.mod_eq_of_lt (by omega), Nat.mod_eq_of_lt (by omega), show (50 + x).toNat = 50 + 23 * (x.toNat / 23) + x.toNat % 23 by omega, show (73 + x).toNat = 50 + 23 * (x.toNat / 23 + 1) + x.toNat % 23 by omega, bk_w _ _ (by omega) (by omega), bk_w _ _ (by omega) (by omega)]
theorem p54 (b w : Int) (k : Nat) (hb : 1 ≤ b ∧ b ≤ 54) (hw : 1 ≤ w ∧ w ≤ 54 ^ k) (hk : k < 10) : 1 ≤ w * b ∧ w * b ≤ 54 ^ (k + 1) ∧ (54 : Int) ^ (k + 1) ≤ 210832519264920576 := by
  refine ⟨?_, ?_, ?_⟩
  · have := Int.mul_le_mul hw.1 hb.1 (by decide) (by omega)
    omega
  · rw [Int.pow_succ]
    exact Int.mul_le_mul hw.2 hb.2 (by omega) (by have := hw.1; omega)
  · have h1 : 54 ^ (k + 1) ≤ 54 ^ 10 := Nat.pow_le_pow_right (by decide) (by omega)
    have h2 : (54 : Int) ^ (k + 1) = ((54 ^ (k + 1) : Nat) : Int) := by simp
    have h3 : 54 ^ 10 = 210832519264920576 := by decide
    omega
def pwF (k : Int) : Int := 54 ^ k.toNat
theorem pwF_0 : pwF 0 = 1 := rfl
theorem pwF_s (b w k : Int) (h : (1 ≤ b ∧ b ≤ 54) ∧ (1 ≤ w ∧ w ≤ pwF k) ∧ 0 ≤ k ∧ k < 10) : 1 ≤ w * b ∧ w * b ≤ pwF (k + 1) ∧ pwF (k + 1) ≤ 210832519264920576 := by
  have e : (k + 1).toNat = k.toNat + 1 := by omega
  unfold pwF at *
  rw [e]
  exact p54 b w k.toNat h.1 h.2.1 (by omega)
/-! PAIRS: what was sold is of the kinds that are there, in all[] (now, in each thing kept, in each image) and in was[] -/
def pkF (f : Nat → Int32) (o : Nat) : Prop := (f (o + 1)).toInt < pw2 (f o).toInt
def ppQ (c o : Nat) : Bool := (Nat.beq c 99 && (Nat.beq (o % 1181) 26 || (Nat.ble 50 (o % 1181) && Nat.ble (o % 1181) 279 && Nat.beq ((o % 1181 - 50) % 23) 0))) || (Nat.beq c 105 && Nat.beq o 0)
def PIx (M : mm_M) (c d : Nat) : Prop := ∀ c' o, ppQ c' o = true → ¬ (c' = c ∧ o = d) → pkF (M.1 c') o
def PI (M : mm_M) : Prop := ∀ c o, ppQ c o = true → pkF (M.1 c) o
theorem ppQ_c {c o : Nat} (h : ppQ c o = true) : c = 99 ∨ c = 105 := by
  unfold ppQ at h
  rw [Bool.or_eq_true] at h
  rcases h with h | h
  · rw [Bool.and_eq_true] at h; exact Or.inl (Nat.eq_of_beq_eq_true h.1)
  · rw [Bool.and_eq_true] at h; exact Or.inr (Nat.eq_of_beq_eq_true h.1)
theorem wI_ne {M M' : mm_M} {i k b : Nat} {v : Int32} (e : M' = wI M i k v) (h : b ≠ k) : M'.1 i b = M.1 i b := by
  rw [e]; exact u2_b (i := i) (k := k) (a := i) (b := b) M.1 v h
theorem pi_o {M M' : mm_M} {i k : Nat} {v : Int32} (e : M' = wI M i k v) (h1 : 99 ≠ i) (h2 : 105 ≠ i) (h : b01 (PI M) = 1) : b01 (PI M') = 1 := b01_i (by
  intro c o hc
  rcases ppQ_c hc with rfl | rfl
  · rw [wI_cell e h1]; exact b01_e h _ o hc
  · rw [wI_cell e h2]; exact b01_e h _ o hc)
theorem pi_J {M M' : mm_M} {i k : Nat} {v : Int64} (e : M' = wJ M i k v) (h : b01 (PI M) = 1) : b01 (PI M') = 1 := b01_i (by
  intro c o hc
  rw [wJ_cell e]; exact b01_e h _ o hc)
/-- a place that is in no pair -/
def npQ (c k : Nat) : Bool := !(ppQ c k) && !(ppQ c (k - 1) && Nat.ble 1 k)
theorem pk_w {M M' : mm_M} {c k o : Nat} {v : Int32} (e : M' = wI M c k v) {c' : Nat} (h1 : ¬ (c' = c ∧ o = k)) (h2 : ¬ (c' = c ∧ o + 1 = k)) (h : pkF (M.1 c') o) : pkF (M'.1 c') o := by
  unfold pkF at *
  by_cases q : c' = c
  · subst q
    have e1 : M'.1 c' o = M.1 c' o := by rw [e]; exact u2_b M.1 v (fun z => h1 ⟨rfl, z⟩)
    have e2 : M'.1 c' (o + 1) = M.1 c' (o + 1) := by rw [e]; exact u2_b M.1 v (fun z => h2 ⟨rfl, z⟩)
    rw [e1, e2]; exact h
  · rw [wI_cell e q]; exact h
theorem pi_n {M M' : mm_M} {c k : Nat} {v : Int32} (e : M' = wI M c k v) (hn : npQ c k = true) (h : b01 (PI M) = 1) : b01 (PI M') = 1 := b01_i (by
  intro c' o hc
  refine pk_w e ?_ ?_ (b01_e h c' o hc)
  · rintro ⟨rfl, rfl⟩
    unfold npQ at hn; rw [hc] at hn; simp at hn
  · rintro ⟨rfl, rfl⟩
    unfold npQ at hn; rw [Nat.add_sub_cancel, hc, Nat.ble_eq_true_of_le (show 1 ≤ o + 1 by omega)] at hn; simp at hn)
theorem pw2_p (a : Int) : 1 ≤ pw2 a := by
  unfold pw2
  have : (1 : Int) ≤ ((2 ^ a.toNat : Nat) : Int) := by exact_mod_cast Nat.one_le_two_pow
  simpa using this
theorem pw2_m {a b : Int} (h : a ≤ b) : pw2 a ≤ pw2 b := by
  unfold pw2
  have : 2 ^ a.toNat ≤ 2 ^ b.toNat := Nat.pow_le_pow_right (by decide) (by omega)
  have h2 : ((2 ^ a.toNat : Nat) : Int) ≤ ((2 ^ b.toNat : Nat) : Int) := by exact_mod_cast this
  simpa using h2
theorem pi_k {M M' : mm_M} {a : Int} (e : M' = wI M 99 26 (sI a)) (h : b01 (PI M) = 1) (ha : (-2147483648 ≤ a ∧ a ≤ 2147483647) ∧ (M.1 99 26).toInt ≤ a) : b01 (PI M') = 1 := b01_i (by
  intro c' o hc
  by_cases q : c' = 99 ∧ o = 26
  · obtain ⟨rfl, rfl⟩ := q
    have h1 := b01_e h 99 26 hc
    unfold pkF at *
    have e1 : (M'.1 99 26).toInt = a := s_wr e ha.1
    have e2 : M'.1 99 (26 + 1) = M.1 99 (26 + 1) := wI_ne e (by decide)
    rw [e1, e2]
    have := pw2_m ha.2
    omega
  · refine pk_w e q ?_ (b01_e h c' o hc)
    rintro ⟨rfl, z⟩
    have : o = 25 := by omega
    subst this; exact absurd hc (by decide))
theorem pi_s {M M' : mm_M} {a : Int} (e : M' = wI M 99 27 (sI a)) (h : b01 (PI M) = 1) (ha : (-2147483648 ≤ a ∧ a ≤ 2147483647) ∧ a < pw2 (M.1 99 26).toInt) : b01 (PI M') = 1 := b01_i (by
  intro c' o hc
  by_cases q : c' = 99 ∧ o + 1 = 27
  · obtain ⟨rfl, z⟩ := q
    have : o = 26 := by omega
    subst this
    unfold pkF
    have e1 : (M'.1 99 (26 + 1)).toInt = a := s_wr e ha.1
    have e2 : M'.1 99 26 = M.1 99 26 := wI_ne e (by decide)
    rw [e1, e2]; exact ha.2
  · refine pk_w e ?_ q (b01_e h c' o hc)
    rintro ⟨rfl, rfl⟩
    exact absurd hc (by decide))
/-- a pair half copied -/
def PB (M : mm_M) (c d c2 s : Nat) : Prop := PIx M c d ∧ M.1 c d = M.1 c2 s
theorem pb_0 {M M' : mm_M} {c d c2 s : Nat} {v : Int32} (e : M' = wI M c d v) (hv : v = M.1 c2 s) (hne : ¬ (c2 = c ∧ s = d)) (hd : ppQ c d = true) (h : b01 (PI M) = 1) : b01 (PB M' c d c2 s) = 1 := b01_i (by
  refine ⟨fun c' o hc hq => ?_, ?_⟩
  · refine pk_w e hq ?_ (b01_e h c' o hc)
    rintro ⟨rfl, rfl⟩
    have h99 := ppQ_c hc
    unfold ppQ at hc hd
    rcases h99 with rfl | rfl
    · simp at hc hd; omega
    · simp at hc hd
  · have e1 : M'.1 c d = v := by rw [e]; exact u2_s _ _ _ _
    have e2 : M'.1 c2 s = M.1 c2 s := by
      rw [e]
      by_cases q : c2 = c
      · subst q; exact u2_b M.1 v (fun z => hne ⟨rfl, z⟩)
      · exact u2_a M.1 v q
    rw [e1, e2, hv])
theorem pb_1 {M M' : mm_M} {c d c2 s : Nat} {v : Int32} (e : M' = wI M c (d + 1) v) (hv : v = M.1 c2 (s + 1)) (hs : ppQ c2 s = true) (hne : ¬ (c2 = c ∧ s = d)) (hd : ppQ c d = true) (h : b01 (PB M c d c2 s) = 1) : b01 (PI M') = 1 := b01_i (by
  obtain ⟨h1, h2⟩ := b01_e h
  intro c' o hc
  by_cases q : c' = c ∧ o = d
  · obtain ⟨rfl, rfl⟩ := q
    have h3 := h1 c2 s hs hne
    unfold pkF at *
    have e1 : M'.1 c' (o + 1) = v := by rw [e]; exact u2_s _ _ _ _
    have e2 : M'.1 c' o = M.1 c' o := by rw [e]; exact u2_b M.1 v (by omega)
    rw [e1, e2, hv, h2]; exact h3
  · refine pk_w e ?_ ?_ (h1 c' o hc q)
    · rintro ⟨rfl, rfl⟩
      have h99 := ppQ_c hc
      unfold ppQ at hc hd
      rcases h99 with rfl | rfl
      · simp at hc hd; omega
      · simp at hc hd
    · rintro ⟨rfl, z⟩
      exact q ⟨rfl, by omega⟩)
theorem bo_lt (f : Nat → Int32) (b s : Int) : ∀ n : Nat, (boS f b s n).1 < n
  | 0 => by show (-1 : Int) < 0; decide
  | n + 1 => by
    have ih := bo_lt f b s n
    rw [boS, boT]
    generalize (if mbF f b (↑n) s = 0 then 0 else wtF f b (↑n) s) = w
    by_cases h1 : shF f s = 1
    · rw [if_pos h1]; omega
    · rw [if_neg h1]
      split
      · show (n : Int) < ((n + 1 : Nat) : Int); omega
      · omega
theorem boF_lt (f : Nat → Int32) (b s : Int) (h : 0 ≤ (f 26).toInt) : boF f b s < (f 26).toInt := by
  have := bo_lt f b s (f 26).toInt.toNat
  unfold boF
  omega
theorem or_lt {s k K : Int} (h : 0 ≤ s ∧ s < pw2 K ∧ 0 ≤ k ∧ k < K ∧ K ≤ 8) : 0 ≤ orI s (pw2 k) ∧ orI s (pw2 k) < pw2 K := by
  obtain ⟨h1, h2, h3, h4, h5⟩ := h
  have hK : pw2 K ≤ 256 := pw2_m (b := 8) h5
  have hk : pw2 k < pw2 K := by
    unfold pw2
    have : 2 ^ k.toNat < 2 ^ K.toNat := Nat.pow_lt_pow_right (by decide) (by omega)
    have h2 : ((2 ^ k.toNat : Nat) : Int) < ((2 ^ K.toNat : Nat) : Int) := by exact_mod_cast this
    simpa using h2
  have hp := pw2_p k
  exact sb_or (x := sI s) (y := sI (pw2 k)) K.toNat (by omega) (by rw [sI_t (by omega)]; exact ⟨h1, h2⟩) (by rw [sI_t (by omega)]; exact ⟨by omega, hk⟩)
def seQ (c k : Nat) : Bool := Nat.ble 1 k && ppQ c (k - 1)
def alQ (c pd c2 ps : Nat) : Bool := !(ppQ c pd) || (ppQ c2 ps && !(decide (c2 = c ∧ ps = pd)))
def alB (c pd c2 ps : Nat) : Bool := alQ c pd c2 ps && (!(seQ c pd) || (Nat.ble 1 ps && alQ c (pd - 1) c2 (ps - 1) && !(ppQ c pd)))
/-- in the midst of a copy: about to write the place pd out of ps -/
def Cp (M : mm_M) (c pd c2 ps : Nat) : Prop := (seQ c pd = true → PB M c (pd - 1) c2 (ps - 1)) ∧ (seQ c pd = false → PI M)
theorem cp_0 {M : mm_M} {c pd c2 ps : Nat} (h : b01 (PI M) = 1) (hs : seQ c pd = false) : b01 (Cp M c pd c2 ps) = 1 := b01_i ⟨fun q => (by rw [hs] at q; cases q), fun _ => b01_e h⟩
theorem cp_e {M : mm_M} {c pd c2 ps : Nat} (h : b01 (Cp M c pd c2 ps) = 1) (hs : seQ c pd = false) : b01 (PI M) = 1 := b01_i ((b01_e h).2 hs)
theorem alQ_e {c pd c2 ps : Nat} (h : alQ c pd c2 ps = true) (hp : ppQ c pd = true) : ppQ c2 ps = true ∧ ¬ (c2 = c ∧ ps = pd) := by
  unfold alQ at h
  rw [hp] at h
  simp only [Bool.not_true, Bool.false_or, Bool.and_eq_true, Bool.not_eq_true', decide_eq_false_iff_not] at h
  exact h
theorem cp_step {M M' : mm_M} {c pd c2 ps pd' ps' : Nat} {v : Int32} (e : M' = wI M c pd v) (hv : v = M.1 c2 ps) (al : alB c pd c2 ps = true) (q : pd' = pd + 1) (q2 : ps' = ps + 1) (h : b01 (Cp M c pd c2 ps) = 1) : b01 (Cp M' c pd' c2 ps') = 1 := b01_i (by
  subst q; subst q2
  obtain ⟨h1, h2⟩ := b01_e h
  unfold alB at al
  rw [Bool.and_eq_true] at al
  obtain ⟨al1, al2⟩ := al
  have hs1 : seQ c (pd + 1) = ppQ c pd := by unfold seQ; simp [Nat.ble_eq]
  unfold Cp
  rw [hs1, Nat.add_sub_cancel, Nat.add_sub_cancel]
  by_cases hse : seQ c pd = true
  · have h3 := h1 hse
    rw [hse] at al2
    simp only [Bool.not_true, Bool.false_or, Bool.and_eq_true, Bool.not_eq_true'] at al2
    obtain ⟨⟨hps, al3⟩, hpd⟩ := al2
    have hps := Nat.le_of_ble_eq_true hps
    unfold seQ at hse
    rw [Bool.and_eq_true] at hse
    have hp1 := Nat.le_of_ble_eq_true hse.1
    obtain ⟨a1, a2⟩ := alQ_e al3 hse.2
    refine ⟨fun z => (by rw [hpd] at z; cases z), fun _ => ?_⟩
    refine b01_e (pb_1 (d := pd - 1) (s := ps - 1) (v := v) ?_ ?_ a1 a2 hse.2 (b01_i h3))
    · rw [Nat.sub_add_cancel hp1]; exact e
    · rw [Nat.sub_add_cancel hps]; exact hv
  · have hse2 : seQ c pd = false := by simpa using hse
    have h3 := h2 hse2
    by_cases hp : ppQ c pd = true
    · obtain ⟨a1, a2⟩ := alQ_e al1 hp
      exact ⟨fun _ => b01_e (pb_0 e hv a2 hp (b01_i h3)), fun z => (by rw [hp] at z; cases z)⟩
    · have hp2 : ppQ c pd = false := by simpa using hp
      refine ⟨fun z => absurd z hp, fun _ => ?_⟩
      refine b01_e (pi_n e ?_ (b01_i h3))
      unfold npQ
      unfold seQ at hse2
      rw [hp2, Bool.and_comm (ppQ c (pd - 1)), hse2]; rfl)
theorem al_k : ∀ k, k < 23 → alB 105 k 99 (26 + k) = true := by decide +kernel
theorem al_a : ∀ k, k < 23 → alB 99 (26 + k) 105 k = true := by decide +kernel
theorem al_n : ∀ n, n < 10 → ∀ k, k < 23 → alB 99 (50 + 23 * n + k) 105 k = true := by decide +kernel
theorem al_u : ∀ n, n < 10 → ∀ k, k < 23 → alB 99 (26 + k) 99 (50 + 23 * n + k) = true := by decide +kernel
theorem al_s : ∀ k, k < 207 → alB 99 (50 + k) 99 (73 + k) = true := by decide +kernel
theorem se_n : ∀ n, n < 10 → seQ 99 (50 + 23 * n) = false ∧ seQ 99 (50 + 23 * n + 23) = false := by decide +kernel
theorem se_k : seQ 105 0 = false ∧ seQ 105 23 = false ∧ seQ 99 26 = false ∧ seQ 99 49 = false ∧ seQ 99 50 = false ∧ seQ 99 257 = false := by decide +kernel
/-! ENDINGS -/
def eoP (M : mm_M) (s v : Int) : Prop := v = 268435456 ∨ (0 ≤ v ∧ v ≤ 255 - s ∧ (v = 0 ∨ ∃ b k : Int, 0 ≤ b ∧ b < (M.1 99 1).toInt ∧ 0 ≤ k ∧ k ≤ 7 ∧ (M.1 106 (6 * s + b).toNat).toInt = k ∧ iiF s k = 0 ∧ s < orI s (pw2 k) ∧ orI s (pw2 k) ≤ evF (M.1 99) ∧ (M.1 107 (orI s (pw2 k)).toNat).toInt + 1 = v))
def leQ (M : mm_M) (s : Int) : Prop := ∀ t : Int, s < t → 0 ≤ t → t ≤ evF (M.1 99) → eoP M t (M.1 107 t.toNat).toInt
def lbQ (M : mm_M) (f : Nat → Int32) (s b : Int) : Prop := ∀ s' b' : Int, 0 ≤ s' → 0 ≤ b' → b' < (f 1).toInt → (s' < s ∨ s' = s ∧ b' < b) → (M.1 106 (6 * s' + b').toNat).toInt < (f 26).toInt
def lbP (M : mm_M) : Prop := ∀ s' b' : Int, 0 ≤ s' → 0 ≤ b' → b' < (M.1 99 1).toInt → s' ≤ evF (M.1 99) → (M.1 106 (6 * s' + b').toNat).toInt < (M.1 99 26).toInt
theorem lb_0 (M : mm_M) (f : Nat → Int32) : b01 (lbQ M f 0 0) = 1 := b01_i (fun s' b' h0 h1 h2 h3 => absurd h3 (by omega))
theorem lb_s {M M' : mm_M} {f : Nat → Int32} {s b v : Int} (e : M' = wI M 106 (6 * s + b).toNat (sI v)) (h : b01 (lbQ M f s b) = 1) (q : (-2147483648 ≤ v ∧ v ≤ 2147483647) ∧ v < (f 26).toInt ∧ 0 ≤ s ∧ 0 ≤ b ∧ b < 6 ∧ (f 1).toInt ≤ 6) : b01 (lbQ M' f s (b + 1)) = 1 := b01_i (by
  intro s' b' h0 h1 h2 h3
  by_cases hq : s' = s ∧ b' = b
  · obtain ⟨rfl, rfl⟩ := hq
    rw [s_wr e q.1]; exact q.2.1
  · have : (M'.1 106 (6 * s' + b').toNat) = M.1 106 (6 * s' + b').toNat := wI_ne e (by omega)
    rw [this]
    exact b01_e h s' b' h0 h1 h2 (by omega))
theorem lb_n {M : mm_M} {f : Nat → Int32} {s b : Int} (h : b01 (lbQ M f s b) = 1) (q : (f 1).toInt ≤ b) : b01 (lbQ M f (s + 1) 0) = 1 := b01_i (fun s' b' h0 h1 h2 h3 => b01_e h s' b' h0 h1 h2 (by omega))
theorem lb_e {M : mm_M} {f : Nat → Int32} {s : Int} (e : M.1 99 = f) (h : b01 (lbQ M f s 0) = 1) (q : evF f < s) : b01 (lbP M) = 1 := b01_i (by
  intro s' b' h0 h1 h2 h3
  rw [e] at h2 h3 ⊢
  exact b01_e h s' b' h0 h1 h2 (by omega))
theorem lb_c {M N : mm_M} (e1 : N.1 99 = M.1 99) (e2 : N.1 106 = M.1 106) (h : b01 (lbP M) = 1) : b01 (lbP N) = 1 := b01_i (by
  intro s' b'
  rw [e1, e2]
  exact b01_e h s' b')
theorem eo_0 (M : mm_M) (s : Int) (h : s ≤ 255) : b01 (eoP M s 0) = 1 := b01_i (Or.inr ⟨by omega, by omega, Or.inl rfl⟩)
theorem eo_N (M : mm_M) (s : Int) : b01 (eoP M s 268435456) = 1 := b01_i (Or.inl rfl)
theorem eo_b {M : mm_M} {s v : Int} (h : b01 (eoP M s v) = 1) (hs : 0 ≤ s) : 0 ≤ v ∧ v ≤ 268435456 ∧ (v < 268435456 → v ≤ 255 - s) := by
  rcases b01_e h with h | h <;> omega
theorem ii_or : ∀ s k : Nat, s < 256 → k < 8 → iiF (s : Int) (k : Int) = 0 → (s : Int) < orI (s : Int) (pw2 (k : Int)) := by
  have : ∀ s : Nat, s < 256 → ∀ k : Nat, k < 8 → iiF (s : Int) (k : Int) = 0 → (s : Int) < orI (s : Int) (pw2 (k : Int)) := by decide +kernel
  intro s k h1 h2
  exact this s h1 k h2
theorem ii_orI {s k : Int} (h : 0 ≤ s ∧ s ≤ 255 ∧ 0 ≤ k ∧ k ≤ 7) (h2 : iiF s k = 0) : s < orI s (pw2 k) := by
  have := ii_or s.toNat k.toNat (by omega) (by omega)
  rw [Int.toNat_of_nonneg h.1, Int.toNat_of_nonneg h.2.2.1] at this
  exact this h2
theorem eo_up {M : mm_M} {s b k v : Int} (hl : b01 (leQ M s) = 1) (hb : b01 (lbP M) = 1) (hk : (M.1 106 (6 * s + b).toNat).toInt = k) (q : 0 ≤ s ∧ s ≤ evF (M.1 99) ∧ 0 ≤ b ∧ b < (M.1 99 1).toInt ∧ (M.1 99 1).toInt ≤ 6 ∧ 0 ≤ k ∧ k ≤ 7 ∧ iiF s k = 0 ∧ (0 ≤ (M.1 99 26).toInt ∧ (M.1 99 26).toInt ≤ 8) ∧ v ≤ 268435456) (hv : v = (M.1 107 (orI s (pw2 k)).toNat).toInt + 1) : b01 (eoP M s v) = 1 := b01_i (by
  obtain ⟨q1, q2, q3, q4, q5, q6, q7, q8, q9, q10⟩ := q
  have hlt := b01_e hb s b q1 q3 q4 q2
  rw [hk] at hlt
  have hev : evF (M.1 99) = pw2 (M.1 99 26).toInt - 1 := rfl
  have h8 : pw2 (M.1 99 26).toInt ≤ 256 := pw2_m (b := 8) q9.2
  have ho := or_lt (s := s) (k := k) (K := (M.1 99 26).toInt) ⟨q1, by omega, q6, hlt, q9.2⟩
  have hgt := ii_orI (s := s) (k := k) ⟨q1, by omega, q6, q7⟩ q8
  have ht := b01_e hl (orI s (pw2 k)) hgt ho.1 (by omega)
  have hb2 := eo_b (b01_i ht) ho.1
  right
  refine ⟨by omega, by omega, Or.inr ⟨b, k, q3, q4, q6, q7, hk, q8, hgt, by omega, hv.symm⟩⟩)
theorem eo_w {M M' : mm_M} {x : Nat} {u : Int32} {t v : Int} (e : M' = wI M 107 x u) (ht : (x : Int) ≤ t) (h : eoP M t v) : eoP M' t v := by
  rcases h with h | ⟨h1, h2, h3⟩
  · exact Or.inl h
  · refine Or.inr ⟨h1, h2, ?_⟩
    rcases h3 with h3 | ⟨b, k, a1, a2, a3, a4, a5, a6, a7, a8, a9⟩
    · exact Or.inl h3
    · refine Or.inr ⟨b, k, a1, ?_, a3, a4, ?_, a6, a7, ?_, ?_⟩
      · rw [wI_cell e (show (99 : Nat) ≠ 107 by decide)]; exact a2
      · rw [wI_cell e (show (106 : Nat) ≠ 107 by decide)]; exact a5
      · rw [wI_cell e (show (99 : Nat) ≠ 107 by decide)]; exact a8
      · have : M'.1 107 (orI t (pw2 k)).toNat = M.1 107 (orI t (pw2 k)).toNat := wI_ne e (by omega)
        rw [this]; exact a9
theorem le_s {M M' : mm_M} {s v : Int} (e : M' = wI M 107 s.toNat (sI v)) (h : b01 (leQ M s) = 1) (hv : b01 (eoP M s v) = 1) (q : 0 ≤ s ∧ -2147483648 ≤ v ∧ v ≤ 2147483647) : b01 (leQ M' (s + (-1))) = 1 := b01_i (by
  intro t h1 h2 h3
  rw [wI_cell e (show (99 : Nat) ≠ 107 by decide)] at h3
  rcases (show t = s ∨ s < t by omega) with rfl | h4
  · rw [s_wr e ⟨q.2.1, q.2.2⟩]
    exact eo_w e (by omega) (b01_e hv)
  · have : M'.1 107 t.toNat = M.1 107 t.toNat := wI_ne e (by omega)
    rw [this]
    exact eo_w e (by omega) (b01_e h t h4 h2 h3))
theorem le_0 (M : mm_M) (s : Int) (h : evF (M.1 99) ≤ s) : b01 (leQ M s) = 1 := b01_i (fun t h1 h2 h3 => absurd h3 (by omega))
theorem le_g {M : mm_M} (h : b01 (leQ M (-1)) = 1) (s : Int) (q : 0 ≤ s ∧ s ≤ evF (M.1 99)) : b01 (eoP M s (M.1 107 s.toNat).toInt) = 1 := b01_i (b01_e h s (by omega) q.1 q.2)
theorem le_c {M N : mm_M} {s : Int} (e1 : N.1 99 = M.1 99) (e2 : N.1 106 = M.1 106) (e3 : N.1 107 = M.1 107) (h : b01 (leQ M s) = 1) : b01 (leQ N s) = 1 := b01_i (by
  intro t
  unfold eoP
  rw [e1, e2, e3]
  exact b01_e h t)
theorem pi_27 {M : mm_M} (h : b01 (PI M) = 1) : (M.1 99 27).toInt ≤ evF (M.1 99) := by
  have h1 := b01_e h 99 26 (by decide)
  unfold pkF at h1
  have : evF (M.1 99) = pw2 (M.1 99 26).toInt - 1 := rfl
  have h2 : (M.1 99 (26 + 1)).toInt = (M.1 99 27).toInt := rfl
  omega
/-- a visitor from b on that leads nearer -/
def wtP (M : mm_M) (s b0 v : Int) : Prop := ∃ b k : Int, b0 ≤ b ∧ b < (M.1 99 1).toInt ∧ 0 ≤ k ∧ k ≤ 7 ∧ (M.1 106 (6 * s + b).toNat).toInt = k ∧ iiF s k = 0 ∧ s < orI s (pw2 k) ∧ orI s (pw2 k) ≤ evF (M.1 99) ∧ (M.1 107 (orI s (pw2 k)).toNat).toInt + 1 = v
theorem wt_0 {M : mm_M} {s v : Int} (h : b01 (eoP M s (M.1 107 s.toNat).toInt) = 1) (e : (M.1 107 s.toNat).toInt = v) (q : 1 ≤ v ∧ v < 268435456) : b01 (wtP M s 0 v) = 1 := b01_i (by
  rw [e] at h
  rcases b01_e h with h | ⟨h1, h2, h3⟩
  · omega
  · rcases h3 with h3 | ⟨b, k, h4⟩
    · omega
    · exact ⟨b, k, h4⟩)
theorem wt_b {M : mm_M} {s b v : Int} (h : b01 (wtP M s b v) = 1) : b < (M.1 99 1).toInt := by
  obtain ⟨b', k, h1, h2, -⟩ := b01_e h
  omega
theorem wt_s {M : mm_M} {s b v T : Int} (h : b01 (wtP M s b v) = 1) (hT : (M.1 106 (6 * s + b).toNat).toInt = T) (q : T = -1 ∨ ¬ iiF s T = 0 ∨ ¬ (M.1 107 (orI s (pw2 T)).toNat).toInt + 1 = v) : b01 (wtP M s (b + 1) v) = 1 := b01_i (by
  obtain ⟨b', k, h1, h2, h3, h4, h5, h6, h7, h8, h9⟩ := b01_e h
  rcases (show b' = b ∨ b < b' by omega) with rfl | hlt
  · rw [h5] at hT
    subst hT
    rcases q with q | q | q
    · omega
    · exact absurd h6 q
    · exact absurd h9 q
  · exact ⟨b', k, by omega, h2, h3, h4, h5, h6, h7, h8, h9⟩)
theorem ev_or {M : mm_M} {s b k : Int} (hb : b01 (lbP M) = 1) (hk : (M.1 106 (6 * s + b).toNat).toInt = k) (q : 0 ≤ s ∧ s ≤ evF (M.1 99) ∧ 0 ≤ b ∧ b < (M.1 99 1).toInt ∧ 0 ≤ k ∧ (0 ≤ (M.1 99 26).toInt ∧ (M.1 99 26).toInt ≤ 8)) : orI s (pw2 k) ≤ evF (M.1 99) := by
  obtain ⟨q1, q2, q3, q4, q6, q9⟩ := q
  have hlt := b01_e hb s b q1 q3 q4 q2
  rw [hk] at hlt
  have hev : evF (M.1 99) = pw2 (M.1 99 26).toInt - 1 := rfl
  have ho := or_lt (s := s) (k := k) (K := (M.1 99 26).toInt) ⟨q1, by omega, q6, hlt, q9.2⟩
  omega
theorem fdmt {M0 M M1 M2 : mm_M} {a b c d e t t' v w q : Int} (h : b01 (FDM M0 M a b c d e) = 1) (e1 : M1 = wI M 101 t.toNat (sI v)) (e2 : M2 = wI M1 98 5 (sI (t' + 1))) (htt : t' = t) (ht : t = (M.1 98 5).toInt ∧ t = (M0.1 98 5).toInt + q ∧ 0 ≤ q ∧ 0 ≤ t ∧ t ≤ 900) (hv : v = byS w (24 - 8 * (q % 4)) ∧ -2147483648 ≤ v ∧ v ≤ 2147483647) (hw : w = ar5 a b c d e (q / 4)) : b01 (FDM M0 M2 a b c d e) = 1 := by
  subst htt; exact fdms h e1 e2 ht hv hw
