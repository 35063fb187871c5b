/-! ROWS ALIKE: two rows tell the same shop -/
def EQL (g f : Nat → Int32) (l : Nat) : Prop := ((g (2 + l)).toInt = 0 ↔ (f (2 + l)).toInt = 0) ∧ (¬ (f (2 + l)).toInt = 0 → g (4 + l) = f (4 + l) ∧ g (6 + l) = f (6 + l) ∧ ∀ i : Nat, (i : Int) < (f (6 + l)).toInt → g (281 + (f (4 + l)).toInt + (i : Int)).toNat = f (281 + (f (4 + l)).toInt + (i : Int)).toNat)
def EQB (g f : Nat → Int32) (b : Int) : Prop := g (8 + b).toNat = f (8 + b).toNat ∧ g (14 + b).toNat = f (14 + b).toNat ∧ g (20 + b).toNat = f (20 + b).toNat
def EQK (g f : Nat → Int32) (k : Int) : Prop := g (33 + k).toNat = f (33 + k).toNat ∧ g (41 + k).toNat = f (41 + k).toNat
def EQP (g f : Nat → Int32) : Prop := g 0 = f 0 ∧ g 1 = f 1 ∧ (∀ b : Int, 0 ≤ b → b < (f 1).toInt → EQB g f b) ∧ EQL g f 0 ∧ EQL g f 1
def EQS (g f : Nat → Int32) : Prop := (g 26 = f 26 ∧ g 27 = f 27 ∧ g 28 = f 28 ∧ g 29 = f 29 ∧ g 30 = f 30 ∧ g 32 = f 32) ∧ ∀ k : Int, 0 ≤ k → k < (f 26).toInt → EQK g f k
theorem rkS_c {f g : Nat → Int32} {W : Nat → Int} {o : Int} : ∀ {n : Nat}, (∀ i : Nat, i < n → g (o + (i : Int)).toNat = f (o + (i : Int)).toNat) → rkS g W o n = rkS f W o n
  | 0, _ => rfl
  | n + 1, h => by rw [rkS, rkS, rkS_c (n := n) (fun i hi => h i (by omega)), h n (by omega)]
theorem wd_c {f g : Nat → Int32} {b k : Int} (hb : EQB g f b) (hk : EQK g f k) (s : Int) : wdF g b k s = wdF f b k s := by
  funext j
  unfold wdF
  rw [hb.1, hb.2.1, hk.1, hk.2]
theorem rk_c {f g : Nat → Int32} {l : Nat} {b k : Int} (hl : EQL g f l) (ht : ¬ (f (2 + l)).toInt = 0) (hb : EQB g f b) (hk : EQK g f k) (s : Int) : rkF g l b k s = rkF f l b k s := by
  obtain ⟨h1, h2, h3⟩ := hl.2 ht
  unfold rkF
  rw [wd_c hb hk, h1, h2, rkS_c (fun i hi => h3 i (by omega))]
theorem wt_c {f g : Nat → Int32} {b k : Int} (hl : EQL g f 0) (hb : EQB g f b) (hk : EQK g f k) (s : Int) : wtF g b k s = wtF f b k s := by
  unfold wtF
  by_cases z : (f 2).toInt = 0
  · rw [if_pos z, if_pos (hl.1.mpr z), hb.1, hk.1]
  · rw [if_neg z, if_neg (fun y => z (hl.1.mp y)), rk_c hl z hb hk]
theorem mb_c {f g : Nat → Int32} {b k : Int} (h28 : g 28 = f 28) (hl : EQL g f 1) (hb : EQB g f b) (hk : EQK g f k) (s : Int) : mbF g b k s = mbF f b k s := by
  unfold mbF
  have e : (iiF (g 28).toInt k = 0 ∧ (g (33 + k).toNat).toInt ≤ (g (8 + b).toNat).toInt ∧ ((g 3).toInt = 0 ∨ rkF g 1 b k s = 1)) ↔ (iiF (f 28).toInt k = 0 ∧ (f (33 + k).toNat).toInt ≤ (f (8 + b).toNat).toInt ∧ ((f 3).toInt = 0 ∨ rkF f 1 b k s = 1)) := by
    rw [h28, hb.1, hk.1]
    by_cases z : (f 3).toInt = 0
    · have y := hl.1.mpr z
      have y : (g 3).toInt = 0 := y
      simp [z, y]
    · have y : ¬ (g 3).toInt = 0 := fun y => z (hl.1.mp y)
      rw [rk_c hl z hb hk]
      simp [z, y]
  by_cases z : (iiF (f 28).toInt k = 0 ∧ (f (33 + k).toNat).toInt ≤ (f (8 + b).toNat).toInt ∧ ((f 3).toInt = 0 ∨ rkF f 1 b k s = 1))
  · rw [if_pos z, if_pos (e.mpr z)]
  · rw [if_neg z, if_neg (fun y => z (e.mp y))]
theorem sh_c {f g : Nat → Int32} (h26 : g 26 = f 26) (h28 : g 28 = f 28) (s : Int) : shF g s = shF f s := by
  unfold shF snF evF
  rw [h26, h28]
theorem boS_c {f g : Nat → Int32} {b : Int} (s : Int) (h26 : g 26 = f 26) (h28 : g 28 = f 28) (hl0 : EQL g f 0) (hl1 : EQL g f 1) (hb : EQB g f b) (hk : ∀ k : Int, 0 ≤ k → k < (f 26).toInt → EQK g f k) : ∀ n : Nat, (n : Int) ≤ (f 26).toInt → boS g b s n = boS f b s n
  | 0, _ => rfl
  | n + 1, h => by
    have q := hk (n : Int) (by omega) (by omega)
    rw [boS, boS, boS_c s h26 h28 hl0 hl1 hb hk n (by omega)]
    unfold boT
    rw [sh_c h26 h28, mb_c h28 hl1 hb q, wt_c hl0 hb q]
theorem bo_c {f g : Nat → Int32} {b : Int} (s : Int) (h26 : g 26 = f 26) (h28 : g 28 = f 28) (hl0 : EQL g f 0) (hl1 : EQL g f 1) (hb : EQB g f b) (hk : ∀ k : Int, 0 ≤ k → k < (f 26).toInt → EQK g f k) : boF g b s = boF f b s := by
  unfold boF
  rw [h26]
  by_cases z : 0 ≤ (f 26).toInt
  · rw [boS_c s h26 h28 hl0 hl1 hb hk _ (by omega)]
  · rw [show (f 26).toInt.toNat = 0 by omega]; rfl
/-- what a buyer would buy is the same -/
theorem bo_eq {f g : Nat → Int32} {b : Int} (hp : EQP g f) (hs : EQS g f) (hb : 0 ≤ b ∧ b < (f 1).toInt) (s : Int) : boF g b s = boF f b s := bo_c s hs.1.1 hs.1.2.2.1 hp.2.2.2.1 hp.2.2.2.2 (hp.2.2.1 b hb.1 hb.2) hs.2
theorem wt_eq {f g : Nat → Int32} {b k : Int} (hp : EQP g f) (hs : EQS g f) (hb : 0 ≤ b ∧ b < (f 1).toInt) (hk : 0 ≤ k ∧ k < (f 26).toInt) (s : Int) : wtF g b k s = wtF f b k s := wt_c hp.2.2.2.1 (hp.2.2.1 b hb.1 hb.2) (hs.2 k hk.1 hk.2) s
theorem mb_eq {f g : Nat → Int32} {b k : Int} (hp : EQP g f) (hs : EQS g f) (hb : 0 ≤ b ∧ b < (f 1).toInt) (hk : 0 ≤ k ∧ k < (f 26).toInt) (s : Int) : mbF g b k s = mbF f b k s := mb_c hs.1.2.2.1 hp.2.2.2.2 (hp.2.2.1 b hb.1 hb.2) (hs.2 k hk.1 hk.2) s
/-! THE CLASS'S ROW: plan p, stock v, hidden h, in the reference's order -/
def clX (M : mm_M) (p v : Nat) (h : Int32) (j : Nat) : Int32 :=
  if j = 0 then M.1 p 1 else if j = 1 then M.1 p 0
  else if j = 2 then (if M.1 p 7 = M.1 p 8 then 0 else 1) else if j = 3 then (if M.1 p 9 = M.1 p 10 then 0 else 1)
  else if j = 4 then M.1 p 7 else if j = 5 then M.1 p 9 else if j = 6 then M.1 p 8 - M.1 p 7 else if j = 7 then M.1 p 10 - M.1 p 9
  else if j < 14 then M.1 (s_p0 p 2) (j - 8) else if j < 20 then M.1 (s_p0 p 3) (j - 14) else if j < 26 then M.1 (s_p0 p 4) (j - 20)
  else if j = 26 then M.1 v 0 else if j = 27 then M.1 v 3 else if j = 28 then h else if j = 29 then M.1 v 5 else if j = 30 then M.1 v 6 else if j = 31 then M.1 v 7 else if j = 32 then M.1 v 8
  else if j < 41 then M.1 (s_p0 v 1) (j - 33) else if j < 49 then M.1 (s_p0 v 2) (j - 41)
  else if j < 281 then 0 else sI (cmF (M.1 (s_p0 p 5) (j - 281)).toInt)
/-- the same, as the class's Minds have it -/
def mdX (M : mm_M) (p : Nat) (h : Int32) (j : Nat) : Int32 :=
  if j = 26 then M.1 81 6 else if 33 ≤ j ∧ j < 41 then M.1 83 (j - 33) else if 41 ≤ j ∧ j < 49 then M.1 84 (j - 41) else clX M p 12 h j
/-! an appetite: how much a kind is wanted, 0 if it won't be bought; o how many are gone, w whether it was sold -/
def wdO (f : Nat → Int32) (b k o w : Int) (j : Nat) : Int := if j = 0 then b else if j = 1 then (f (8 + b).toNat).toInt else if j = 2 then (f (14 + b).toNat).toInt else if j = 3 then k else if j = 4 then (f (33 + k).toNat).toInt else if j = 5 then (f (41 + k).toNat).toInt else if j = 6 then o else w
theorem wdO_e (f : Nat → Int32) (b k s : Int) : wdF f b k s = wdO f b k (bsF s (8 : Int).toNat) (andI (shrI s k) 1) := by funext j; rfl
def rkO (f : Nat → Int32) (l : Nat) (b k o w : Int) : Int := (rkS f (wdO f b k o w) (281 + (f (4 + l)).toInt) (f (6 + l)).toInt.toNat).2 0
theorem rkO_e (f : Nat → Int32) (l : Nat) (b k s : Int) : rkF f l b k s = rkO f l b k (bsF s (8 : Int).toNat) (andI (shrI s k) 1) := by unfold rkF rkO; rw [wdO_e]
def wtO (f : Nat → Int32) (b k o w : Int) : Int := if (f 2).toInt = 0 then subI (f (8 + b).toNat).toInt (f (33 + k).toNat).toInt else rkO f 0 b k o w
def ltO (f : Nat → Int32) (b k o w : Int) : Int := if (f (33 + k).toNat).toInt ≤ (f (8 + b).toNat).toInt ∧ ((f 3).toInt = 0 ∨ ¬ rkO f 1 b k o w = 0) then 1 else 0
def apO (f : Nat → Int32) (b k o w : Int) : Int := if ltO f b k o w = 1 then (if 0 ≤ wtO f b k o w then wtO f b k o w else 0) else 0
/-- the class's loop over the kinds is the reference's -/
theorem bo_ap (f : Nat → Int32) (b k s : Int) (hk : 0 ≤ k) (hbit : (f 3).toInt = 0 ∨ bitQ (rkF f 1 b k s)) (h0 : 0 ≤ (boS f b s k.toNat).2) (hsh : ¬ shF f s = 1) : ((iiF (f 28).toInt k = 0 ∧ (boS f b s k.toNat).2 < apO f b k (bsF s (8 : Int).toNat) (andI (shrI s k) 1)) ∧ (boS f b s (k + 1).toNat).1 = k ∧ (boS f b s (k + 1).toNat).2 = apO f b k (bsF s (8 : Int).toNat) (andI (shrI s k) 1)) ∨ (¬ (iiF (f 28).toInt k = 0 ∧ (boS f b s k.toNat).2 < apO f b k (bsF s (8 : Int).toNat) (andI (shrI s k) 1)) ∧ (boS f b s (k + 1).toNat).1 = (boS f b s k.toNat).1 ∧ (boS f b s (k + 1).toNat).2 = (boS f b s k.toNat).2) := by
  have w : wtF f b k s = wtO f b k (bsF s (8 : Int).toNat) (andI (shrI s k) 1) := by unfold wtF wtO; rw [rkO_e]
  have st := bo_step f b s k hk
  dsimp only at st
  have ms := mbF_s f b k s
  have hm : mbF f b k s = 1 ↔ (iiF (f 28).toInt k = 0 ∧ ltO f b k (bsF s (8 : Int).toNat) (andI (shrI s k) 1) = 1) := by
    unfold ltO
    rw [← rkO_e]
    by_cases c : (f (33 + k).toNat).toInt ≤ (f (8 + b).toNat).toInt ∧ ((f 3).toInt = 0 ∨ ¬ rkF f 1 b k s = 0)
    · rw [if_pos c]
      rcases ms with ⟨m1, m2⟩ | ⟨m1, m2⟩
      · exact ⟨fun _ => ⟨m1.1, rfl⟩, fun _ => m2⟩
      · refine ⟨fun z => by omega, fun z => ?_⟩
        exfalso
        refine m1 ⟨z.1, c.1, ?_⟩
        rcases c.2 with q | q
        · exact Or.inl q
        · rcases hbit with y | y
          · exact Or.inl y
          · rcases y with y | y
            · exact absurd y q
            · exact Or.inr y
    · rw [if_neg c]
      rcases ms with ⟨m1, m2⟩ | ⟨m1, m2⟩
      · exfalso
        refine c ⟨m1.2.1, ?_⟩
        rcases m1.2.2 with q | q
        · exact Or.inl q
        · exact Or.inr (by omega)
      · exact ⟨fun z => by omega, fun z => by omega⟩
  have m01 : mbF f b k s = 1 ∨ mbF f b k s = 0 := by rcases ms with ⟨_, q⟩ | ⟨_, q⟩ <;> omega
  have ii := iiF_s (f 28).toInt k
  generalize hA : apO f b k (bsF s (8 : Int).toNat) (andI (shrI s k) 1) = A
  unfold apO at hA
  rw [← w] at hA
  generalize ltO f b k (bsF s (8 : Int).toNat) (andI (shrI s k) 1) = lt at hA hm
  generalize wtF f b k s = wt at st hA
  have hA2 : (lt = 1 ∧ 0 ≤ wt ∧ A = wt) ∨ (lt = 1 ∧ wt < 0 ∧ A = 0) ∨ (¬ lt = 1 ∧ A = 0) := by
    by_cases z : lt = 1
    · rw [if_pos z] at hA
      by_cases y : 0 ≤ wt
      · rw [if_pos y] at hA; exact Or.inl ⟨z, y, hA.symm⟩
      · rw [if_neg y] at hA; exact Or.inr (Or.inl ⟨z, by omega, hA.symm⟩)
    · rw [if_neg z] at hA; exact Or.inr (Or.inr ⟨z, hA.symm⟩)
  rcases m01 with m | m
  · obtain ⟨x, y⟩ := hm.mp m
    rcases st with st | st | st | st | st
    · exact absurd st hsh
    · omega
    · omega
    · left; exact ⟨⟨x, by omega⟩, by omega, by omega⟩
    · right; exact ⟨fun z => by omega, by omega, by omega⟩
  · have no : ¬ (iiF (f 28).toInt k = 0 ∧ lt = 1) := fun z => by have := hm.mpr z; omega
    rcases st with st | st | st | st | st
    · exact absurd st hsh
    · omega
    · right; exact ⟨fun z => no ⟨z.1, by omega⟩, by omega, by omega⟩
    · omega
    · omega
