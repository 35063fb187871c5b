/-! THE LAWS' CODES as lists: what a reader writes while it reads a law -/
section PLL
variable (f : Nat → Int) (n : Int)
/-- the class's marks as the reference's codes -/
def cmF (c : Int) : Int := if c < 1008 then c else if c = 2043 then 3000 else if c = 2045 then 3001 else if c = 2042 then 3002 else if c = 2061 then 3003 else if c = 2060 then 3004 else if c = 2062 then 3005 else if c = 1016 then 3006 else if c = 1015 then 3007 else 3008
theorem cm_lo {c : Int} (h : c < 1008) : cmF c = c := by unfold cmF; rw [if_pos h]
theorem cm_tab : cmF 2043 = 3000 ∧ cmF 2045 = 3001 ∧ cmF 2042 = 3002 ∧ cmF 2061 = 3003 ∧ cmF 2060 = 3004 ∧ cmF 2062 = 3005 ∧ cmF 1016 = 3006 ∧ cmF 1015 = 3007 ∧ cmF 1014 = 3008 := by decide
/-- a loop's codes: at each step those of the step -/
def lpL (q : Int → Bool) (st : Int → Int × Int × Int) (GL : Int → List Int) : Nat → Int → List Int
  | 0, _ => []
  | k + 1, i => if q i = true then (if (st i).1 = 0 then GL i ++ lpL q st GL k (st i).2.2 else []) else []
theorem lpL_e {q : Int → Bool} {st : Int → Int × Int × Int} {GL : Int → List Int} (hs : ∀ i, 0 ≤ i → i ≤ n → q i = true → i < n ∧ ((st i).1 = 0 → i < (st i).2.2 ∧ (st i).2.2 ≤ n)) : ∀ (k j : Nat) (i : Int), 0 ≤ i → i ≤ n → (n - i).toNat < k → (n - i).toNat < j → lpL q st GL k i = lpL q st GL j i
  | 0, j, i, h0, h1, h2, h3 => by omega
  | k + 1, 0, i, h0, h1, h2, h3 => by omega
  | k + 1, j + 1, i, h0, h1, h2, h3 => by
    rw [lpL, lpL]
    by_cases z : q i = true
    · rw [if_pos z, if_pos z]
      obtain ⟨a, b⟩ := hs i h0 h1 z
      by_cases y : (st i).1 = 0
      · rw [if_pos y, if_pos y]
        obtain ⟨c, d⟩ := b y
        rw [lpL_e hs k j _ (by omega) d (by omega) (by omega)]
      · rw [if_neg y, if_neg y]
    · rw [if_neg z, if_neg z]
noncomputable def luL (a b : Int) (G : Int → Int × Int × Int) (GL : Int → List Int) (i : Int) : List Int := lpL (tqB f n a b) (fun j => G (nxF f n j)) (fun j => GL (nxF f n j) ++ [cmF (tkF f n j)]) (n + 1 - i).toNat i
theorem luL_y {a b : Int} (hab : ¬ a = 3001 ∧ ¬ b = 3001) {G : Int → Int × Int × Int} {GL : Int → List Int} (hG : PG n G) (i : Int) (h0 : 0 ≤ i ∧ i ≤ n) (ht : tkF f n i = a ∨ tkF f n i = b) (hg : (G (nxF f n i)).1 = 0) : luL f n a b G GL i = GL (nxF f n i) ++ cmF (tkF f n i) :: luL f n a b G GL (G (nxF f n i)).2.2 := by
  have z : tqB f n a b i = true := decide_eq_true ht
  obtain ⟨l, m⟩ := lq_s f n hab hG i h0.1 h0.2 z
  obtain ⟨c, d⟩ := m hg
  unfold luL
  rw [show (n + 1 - i).toNat = (n - i).toNat + 1 by omega, lpL, if_pos z, if_pos hg]
  rw [lpL_e n (lq_s f n hab hG) (n - i).toNat (n + 1 - (G (nxF f n i)).2.2).toNat _ (by omega) d (by omega) (by omega)]
  simp
theorem luL_n {a b : Int} {G : Int → Int × Int × Int} {GL : Int → List Int} (i : Int) (ht : ¬ tkF f n i = a ∧ ¬ tkF f n i = b) : luL f n a b G GL i = [] := by
  have z : ¬ tqB f n a b i = true := fun z => by have := of_decide_eq_true z; omega
  unfold luL
  cases (n + 1 - i).toNat with
  | zero => rfl
  | succ k => rw [lpL, if_neg z]
noncomputable def atL (d : Bool) (subL : Int → List Int) (i : Int) : List Int := if tkF f n i < 1008 then [tkF f n i] else if tkF f n i = 2040 then (if d = true then [] else subL (nxF f n i)) else []
noncomputable def teL (d : Bool) (sub : Int → Int × Int × Int) (subL : Int → List Int) (i : Int) : List Int := atL f n d subL i ++ luL f n 2042 2042 (atP f n d sub) (atL f n d subL) (atP f n d sub i).2.2
noncomputable def suL (d : Bool) (sub : Int → Int × Int × Int) (subL : Int → List Int) (i : Int) : List Int := teL f n d sub subL i ++ luL f n 2043 2045 (teP f n d sub) (teL f n d sub subL) (teP f n d sub i).2.2
noncomputable def sLR : Nat → Int → List Int
  | 0 => suL f n true (fun i => (0, 0, i)) (fun _ => [])
  | r + 1 => suL f n false (suR f n r) (sLR r)
noncomputable def unL (d : Bool) (su : Int → Int × Int × Int) (sl uL tL : Int → List Int) (i : Int) : List Int := if tkF f n i = 1016 then (if d = true then [] else uL (nxF f n i) ++ [3006]) else if tkF f n i = 2091 then (if d = true then [] else tL (nxF f n i)) else sl i ++ (sl (nxF f n (su i).2.2) ++ [cmF (tkF f n (su i).2.2)])
noncomputable def boL (u : Int → Int × Int × Int) (uL : Int → List Int) (i : Int) : List Int := uL i ++ luL f n 1015 1015 u uL (u i).2.2
noncomputable def trL (u : Int → Int × Int × Int) (uL : Int → List Int) (i : Int) : List Int := boL f n u uL i ++ luL f n 1014 1014 (boP f n u) (boL f n u uL) (boP f n u i).2.2
noncomputable def uLR : Nat → Int → List Int
  | 0 => unL f n true (suR f n 0) (sLR f n 0) (fun _ => []) (fun _ => [])
  | r + 1 => unL f n false (suR f n (r + 1)) (sLR f n (r + 1)) (uLR r) (trL f n (unR f n r) (uLR r))
end PLL
