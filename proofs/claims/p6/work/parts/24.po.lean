/-! THE SAME IN NUMBERS, for omega -/
section PO
variable (f : Nat → Int) (n : Int)
theorem at_s0 (sub : Int → Int × Int × Int) (i : Int) : (tkF f n i < 1008 ∧ (atP f n true sub i).1 = 0 ∧ (atP f n true sub i).2.2 = nxF f n i) ∨ (tkF f n i = 2040 ∧ (atP f n true sub i).1 = 4 ∧ (atP f n true sub i).2.1 = i) ∨ (1008 ≤ tkF f n i ∧ ¬ tkF f n i = 2040 ∧ (atP f n true sub i).1 = flP f n i 2 ∧ (atP f n true sub i).2.1 = i) := by
  rcases atP_s f n true sub i with a | ⟨a, _, b⟩ | ⟨_, b, _⟩ | a
  · exact Or.inl a
  · exact Or.inr (Or.inl ⟨a, b⟩)
  · cases b
  · exact Or.inr (Or.inr a)
theorem at_s1 (sub : Int → Int × Int × Int) (i : Int) : (tkF f n i < 1008 ∧ (atP f n false sub i).1 = 0 ∧ (atP f n false sub i).2.2 = nxF f n i) ∨ (tkF f n i = 2040 ∧ (sub (nxF f n i)).1 = 0 ∧ (atP f n false sub i).1 = (exP f n 2041 (sub (nxF f n i)).2.2).1 ∧ (atP f n false sub i).2.1 = (exP f n 2041 (sub (nxF f n i)).2.2).2.1 ∧ (atP f n false sub i).2.2 = (exP f n 2041 (sub (nxF f n i)).2.2).2.2) ∨ (tkF f n i = 2040 ∧ ¬ (sub (nxF f n i)).1 = 0 ∧ (atP f n false sub i).1 = (sub (nxF f n i)).1 ∧ (atP f n false sub i).2.1 = (sub (nxF f n i)).2.1) ∨ (1008 ≤ tkF f n i ∧ ¬ tkF f n i = 2040 ∧ (atP f n false sub i).1 = flP f n i 2 ∧ (atP f n false sub i).2.1 = i) := by
  rcases atP_s f n false sub i with a | ⟨_, b, _⟩ | ⟨a, _, b⟩ | a
  · exact Or.inl a
  · cases b
  · rw [b]
    rcases sqP_s (sub (nxF f n i)) (exP f n 2041) with c | c
    · exact Or.inr (Or.inl ⟨a, c⟩)
    · exact Or.inr (Or.inr (Or.inl ⟨a, c⟩))
  · exact Or.inr (Or.inr (Or.inr a))
theorem te_s (d : Bool) (sub : Int → Int × Int × Int) (i : Int) : ((atP f n d sub i).1 = 0 ∧ (teP f n d sub i).1 = (luP f n 2042 2042 (atP f n d sub) (atP f n d sub i).2.2).1 ∧ (teP f n d sub i).2.1 = (luP f n 2042 2042 (atP f n d sub) (atP f n d sub i).2.2).2.1 ∧ (teP f n d sub i).2.2 = (luP f n 2042 2042 (atP f n d sub) (atP f n d sub i).2.2).2.2) ∨ (¬ (atP f n d sub i).1 = 0 ∧ (teP f n d sub i).1 = (atP f n d sub i).1 ∧ (teP f n d sub i).2.1 = (atP f n d sub i).2.1) := sqP_s _ _
theorem su_s0 (i : Int) : ((teP f n true (fun i => (0, 0, i)) i).1 = 0 ∧ (suR f n 0 i).1 = (luP f n 2043 2045 (teP f n true (fun i => (0, 0, i))) (teP f n true (fun i => (0, 0, i)) i).2.2).1 ∧ (suR f n 0 i).2.1 = (luP f n 2043 2045 (teP f n true (fun i => (0, 0, i))) (teP f n true (fun i => (0, 0, i)) i).2.2).2.1 ∧ (suR f n 0 i).2.2 = (luP f n 2043 2045 (teP f n true (fun i => (0, 0, i))) (teP f n true (fun i => (0, 0, i)) i).2.2).2.2) ∨ (¬ (teP f n true (fun i => (0, 0, i)) i).1 = 0 ∧ (suR f n 0 i).1 = (teP f n true (fun i => (0, 0, i)) i).1 ∧ (suR f n 0 i).2.1 = (teP f n true (fun i => (0, 0, i)) i).2.1) := sqP_s _ _
theorem su_s1 (r r2 : Nat) (hr : r2 = r + 1) (i : Int) : ((teP f n false (suR f n r) i).1 = 0 ∧ (suR f n r2 i).1 = (luP f n 2043 2045 (teP f n false (suR f n r)) (teP f n false (suR f n r) i).2.2).1 ∧ (suR f n r2 i).2.1 = (luP f n 2043 2045 (teP f n false (suR f n r)) (teP f n false (suR f n r) i).2.2).2.1 ∧ (suR f n r2 i).2.2 = (luP f n 2043 2045 (teP f n false (suR f n r)) (teP f n false (suR f n r) i).2.2).2.2) ∨ (¬ (teP f n false (suR f n r) i).1 = 0 ∧ (suR f n r2 i).1 = (teP f n false (suR f n r) i).1 ∧ (suR f n r2 i).2.1 = (teP f n false (suR f n r) i).2.1) := by subst hr; exact sqP_s _ _
/-- a triple is another -/
def eq3 (a b : Int × Int × Int) : Prop := a.1 = b.1 ∧ a.2.1 = b.2.1 ∧ a.2.2 = b.2.2
theorem un_s0 (i : Int) : ((tkF f n i = 1016 ∨ tkF f n i = 2091) ∧ (unR f n 0 i).1 = 4 ∧ (unR f n 0 i).2.1 = i) ∨ (¬ tkF f n i = 1016 ∧ ¬ tkF f n i = 2091 ∧ (suR f n 0 i).1 = 0 ∧ (unR f n 0 i).1 = (cmP f n (suR f n 0) (suR f n 0 i).2.2).1 ∧ (unR f n 0 i).2.1 = (cmP f n (suR f n 0) (suR f n 0 i).2.2).2.1 ∧ (unR f n 0 i).2.2 = (cmP f n (suR f n 0) (suR f n 0 i).2.2).2.2) ∨ (¬ tkF f n i = 1016 ∧ ¬ tkF f n i = 2091 ∧ ¬ (suR f n 0 i).1 = 0 ∧ (unR f n 0 i).1 = (suR f n 0 i).1 ∧ (unR f n 0 i).2.1 = (suR f n 0 i).2.1) := by
  have e : unR f n 0 = unP f n true (suR f n 0) (fun i => (0, 0, i)) (fun i => (0, 0, i)) := rfl
  rw [e]
  rcases unP_s f n true (suR f n 0) (fun i => (0, 0, i)) (fun i => (0, 0, i)) i with ⟨a, _, b⟩ | ⟨_, b, _⟩ | ⟨a, _, b⟩ | ⟨_, b, _⟩ | ⟨a, b, c⟩
  · exact Or.inl ⟨Or.inl a, b⟩
  · cases b
  · exact Or.inl ⟨Or.inr a, b⟩
  · cases b
  · rw [c]
    rcases sqP_s (suR f n 0 i) (cmP f n (suR f n 0)) with d | d
    · exact Or.inr (Or.inl ⟨a, b, d⟩)
    · exact Or.inr (Or.inr ⟨a, b, d⟩)
theorem un_s1 (r r2 : Nat) (hr : r2 = r + 1) (i : Int) : (tkF f n i = 1016 ∧ (unR f n r2 i).1 = (unR f n r (nxF f n i)).1 ∧ (unR f n r2 i).2.1 = (unR f n r (nxF f n i)).2.1 ∧ (unR f n r2 i).2.2 = (unR f n r (nxF f n i)).2.2) ∨ (tkF f n i = 2091 ∧ (trP f n (unR f n r) (nxF f n i)).1 = 0 ∧ (unR f n r2 i).1 = (exP f n 2093 (trP f n (unR f n r) (nxF f n i)).2.2).1 ∧ (unR f n r2 i).2.1 = (exP f n 2093 (trP f n (unR f n r) (nxF f n i)).2.2).2.1 ∧ (unR f n r2 i).2.2 = (exP f n 2093 (trP f n (unR f n r) (nxF f n i)).2.2).2.2) ∨ (tkF f n i = 2091 ∧ ¬ (trP f n (unR f n r) (nxF f n i)).1 = 0 ∧ (unR f n r2 i).1 = (trP f n (unR f n r) (nxF f n i)).1 ∧ (unR f n r2 i).2.1 = (trP f n (unR f n r) (nxF f n i)).2.1) ∨ (¬ tkF f n i = 1016 ∧ ¬ tkF f n i = 2091 ∧ (suR f n r2 i).1 = 0 ∧ (unR f n r2 i).1 = (cmP f n (suR f n r2) (suR f n r2 i).2.2).1 ∧ (unR f n r2 i).2.1 = (cmP f n (suR f n r2) (suR f n r2 i).2.2).2.1 ∧ (unR f n r2 i).2.2 = (cmP f n (suR f n r2) (suR f n r2 i).2.2).2.2) ∨ (¬ tkF f n i = 1016 ∧ ¬ tkF f n i = 2091 ∧ ¬ (suR f n r2 i).1 = 0 ∧ (unR f n r2 i).1 = (suR f n r2 i).1 ∧ (unR f n r2 i).2.1 = (suR f n r2 i).2.1) := by
  subst hr
  have e : unR f n (r + 1) = unP f n false (suR f n (r + 1)) (unR f n r) (trP f n (unR f n r)) := rfl
  rw [e]
  rcases unP_s f n false (suR f n (r + 1)) (unR f n r) (trP f n (unR f n r)) i with ⟨_, b, _⟩ | ⟨a, _, b⟩ | ⟨_, b, _⟩ | ⟨a, _, b⟩ | ⟨a, b, c⟩
  · cases b
  · rw [b]; exact Or.inl ⟨a, rfl, rfl, rfl⟩
  · cases b
  · rw [b]
    rcases sqP_s (trP f n (unR f n r) (nxF f n i)) (exP f n 2093) with d | d
    · exact Or.inr (Or.inl ⟨a, d⟩)
    · exact Or.inr (Or.inr (Or.inl ⟨a, d⟩))
  · rw [c]
    rcases sqP_s (suR f n (r + 1) i) (cmP f n (suR f n (r + 1))) with d | d
    · exact Or.inr (Or.inr (Or.inr (Or.inl ⟨a, b, d⟩)))
    · exact Or.inr (Or.inr (Or.inr (Or.inr ⟨a, b, d⟩)))
theorem bo_s (u : Int → Int × Int × Int) (i : Int) : ((u i).1 = 0 ∧ (boP f n u i).1 = (luP f n 1015 1015 u (u i).2.2).1 ∧ (boP f n u i).2.1 = (luP f n 1015 1015 u (u i).2.2).2.1 ∧ (boP f n u i).2.2 = (luP f n 1015 1015 u (u i).2.2).2.2) ∨ (¬ (u i).1 = 0 ∧ (boP f n u i).1 = (u i).1 ∧ (boP f n u i).2.1 = (u i).2.1) := sqP_s _ _
theorem tr_s (u : Int → Int × Int × Int) (i : Int) : ((boP f n u i).1 = 0 ∧ (trP f n u i).1 = (luP f n 1014 1014 (boP f n u) (boP f n u i).2.2).1 ∧ (trP f n u i).2.1 = (luP f n 1014 1014 (boP f n u) (boP f n u i).2.2).2.1 ∧ (trP f n u i).2.2 = (luP f n 1014 1014 (boP f n u) (boP f n u i).2.2).2.2) ∨ (¬ (boP f n u i).1 = 0 ∧ (trP f n u i).1 = (boP f n u i).1 ∧ (trP f n u i).2.1 = (boP f n u i).2.1) := sqP_s _ _
theorem nx_o (i : Int) (h : 0 ≤ i) : n ≤ i ∨ (i + 1 ≤ nxF f n i ∧ nxF f n i ≤ n) := by
  by_cases q : i < n
  · exact Or.inr (nxF_le f n i ⟨h, q⟩)
  · exact Or.inl (by omega)
end PO
theorem pg_o {n : Int} {F : Int → Int × Int × Int} (h : PG n F) (i : Int) (hi : 0 ≤ i ∧ i ≤ n) : ¬ (F i).1 = 0 ∨ (i < (F i).2.2 ∧ (F i).2.2 ≤ n) := by
  by_cases q : (F i).1 = 0
  · exact Or.inr (h i hi.1 q hi.2)
  · exact Or.inl q
theorem tk_c (f : Nat → Int) (n x y : Int) : ¬ x = y ∨ tkF f n x = tkF f n y := by
  by_cases h : x = y
  · exact Or.inr (by rw [h])
  · exact Or.inl h
theorem tk_v (f : Nat → Int) (n i : Int) : i < 0 ∨ (0 ≤ tkF f n i ∧ tkF f n i ≤ 999 ∧ i < n) ∨ (1000 ≤ tkF f n i ∧ tkF f n i ≤ 1017 ∧ i < n) ∨ ((tkF f n i = 2059 ∨ tkF f n i = 2058 ∨ tkF f n i = 2043 ∨ tkF f n i = 2045 ∨ tkF f n i = 2042 ∨ tkF f n i = 2040 ∨ tkF f n i = 2041 ∨ tkF f n i = 2091 ∨ tkF f n i = 2093 ∨ tkF f n i = 2061 ∨ tkF f n i = 2060 ∨ tkF f n i = 2062) ∧ i < n) ∨ (tkF f n i = 3000 ∧ i < n) ∨ (tkF f n i = 3001 ∧ n ≤ i) := by
  by_cases h : 0 ≤ i
  · exact Or.inr (tkF_v f n i h)
  · exact Or.inl (by omega)
theorem nx_p (f : Nat → Int) (n i : Int) : i < 0 ∨ n ≤ i ∨ (i + 1 ≤ nxF f n i ∧ nxF f n i ≤ n) := by
  by_cases h : 0 ≤ i
  · exact Or.inr (nx_o f n i h)
  · exact Or.inl (by omega)
theorem pg_p {n : Int} {F : Int → Int × Int × Int} (h : PG n F) (i : Int) : i < 0 ∨ n < i ∨ ¬ (F i).1 = 0 ∨ (i < (F i).2.2 ∧ (F i).2.2 ≤ n) := by
  by_cases q : 0 ≤ i ∧ i ≤ n
  · exact Or.inr (Or.inr (pg_o h i q))
  · omega
theorem luo (f : Nat → Int) (n : Int) {a b : Int} (hab : ¬ a = 3001 ∧ ¬ b = 3001) {G : Int → Int × Int × Int} (hG : PG n G) (i : Int) : i < 0 ∨ n < i ∨ ((tkF f n i = a ∨ tkF f n i = b) ∧ ¬ (G (nxF f n i)).1 = 0 ∧ (luP f n a b G i).1 = (G (nxF f n i)).1 ∧ (luP f n a b G i).2.1 = (G (nxF f n i)).2.1) ∨ ((tkF f n i = a ∨ tkF f n i = b) ∧ (G (nxF f n i)).1 = 0 ∧ (luP f n a b G i).1 = (luP f n a b G (G (nxF f n i)).2.2).1 ∧ (luP f n a b G i).2.1 = (luP f n a b G (G (nxF f n i)).2.2).2.1 ∧ (luP f n a b G i).2.2 = (luP f n a b G (G (nxF f n i)).2.2).2.2) ∨ (¬ tkF f n i = a ∧ ¬ tkF f n i = b ∧ (luP f n a b G i).1 = 0 ∧ (luP f n a b G i).2.2 = i) := by
  by_cases q : 0 ≤ i ∧ i ≤ n
  · exact Or.inr (Or.inr (luP_s f n hab hG i q))
  · omega
theorem tk_e (f : Nat → Int) (n i : Int) : i < 0 ∨ (i < n ∧ ¬ tkF f n i = 3001) ∨ (n ≤ i ∧ tkF f n i = 3001) := by
  have := tk_v f n i
  omega
/-! lines, for omega -/
section PQ
variable (f : Nat → Int) (n : Int)
theorem kiT_s (j : Int) : ((nuP f n 1 99 j).1 = 0 ∧ (kiT f n j).1 = (fgP f n (nuP f n 1 99 j).2.2).1 ∧ (kiT f n j).2.1 = (fgP f n (nuP f n 1 99 j).2.2).2.1 ∧ (kiT f n j).2.2 = (fgP f n (nuP f n 1 99 j).2.2).2.2) ∨ (¬ (nuP f n 1 99 j).1 = 0 ∧ (kiT f n j).1 = (nuP f n 1 99 j).1 ∧ (kiT f n j).2.1 = (nuP f n 1 99 j).2.1) := sqP_s _ _
theorem buT_s (j : Int) : ((nuP f n 0 999 j).1 = 0 ∧ (buT f n j).1 = (luP f n 1002 1013 (nuP f n 0 9) (nuP f n 0 999 j).2.2).1 ∧ (buT f n j).2.1 = (luP f n 1002 1013 (nuP f n 0 9) (nuP f n 0 999 j).2.2).2.1 ∧ (buT f n j).2.2 = (luP f n 1002 1013 (nuP f n 0 9) (nuP f n 0 999 j).2.2).2.2) ∨ (¬ (nuP f n 0 999 j).1 = 0 ∧ (buT f n j).1 = (nuP f n 0 999 j).1 ∧ (buT f n j).2.1 = (nuP f n 0 999 j).2.1) := sqP_s _ _
theorem ki_o (k i : Int) : (8 ≤ k ∧ (kiP f n k i).1 = flP f n i 4 ∧ (kiP f n k i).2.1 = i) ∨ (k < 8 ∧ (exP f n 1004 (nxF f n i)).1 = 0 ∧ (kiP f n k i).1 = (kiT f n (exP f n 1004 (nxF f n i)).2.2).1 ∧ (kiP f n k i).2.1 = (kiT f n (exP f n 1004 (nxF f n i)).2.2).2.1 ∧ (kiP f n k i).2.2 = (kiT f n (exP f n 1004 (nxF f n i)).2.2).2.2) ∨ (k < 8 ∧ ¬ (exP f n 1004 (nxF f n i)).1 = 0 ∧ (kiP f n k i).1 = (exP f n 1004 (nxF f n i)).1 ∧ (kiP f n k i).2.1 = (exP f n 1004 (nxF f n i)).2.1) := by
  rcases ki_s f n k i with a | ⟨a, b⟩
  · exact Or.inl a
  · rw [b]
    rcases sqP_s (exP f n 1004 (nxF f n i)) (kiT f n) with c | c
    · exact Or.inr (Or.inl ⟨a, c⟩)
    · exact Or.inr (Or.inr ⟨a, c⟩)
theorem bu_o (b i : Int) : (6 ≤ b ∧ (buP f n b i).1 = flP f n i 4 ∧ (buP f n b i).2.1 = i) ∨ (b < 6 ∧ (exP f n 1001 (nxF f n i)).1 = 0 ∧ (buP f n b i).1 = (buT f n (exP f n 1001 (nxF f n i)).2.2).1 ∧ (buP f n b i).2.1 = (buT f n (exP f n 1001 (nxF f n i)).2.2).2.1 ∧ (buP f n b i).2.2 = (buT f n (exP f n 1001 (nxF f n i)).2.2).2.2) ∨ (b < 6 ∧ ¬ (exP f n 1001 (nxF f n i)).1 = 0 ∧ (buP f n b i).1 = (exP f n 1001 (nxF f n i)).1 ∧ (buP f n b i).2.1 = (exP f n 1001 (nxF f n i)).2.1) := by
  rcases bu_s f n b i with a | ⟨a, b⟩
  · exact Or.inl a
  · rw [b]
    rcases sqP_s (exP f n 1001 (nxF f n i)) (buT f n) with c | c
    · exact Or.inr (Or.inl ⟨a, c⟩)
    · exact Or.inr (Or.inr ⟨a, c⟩)
theorem wa_s (i : Int) : ((exP f n 2058 (nxF f n i)).1 = 0 ∧ (waP f n i).1 = (suR f n 6 (exP f n 2058 (nxF f n i)).2.2).1 ∧ (waP f n i).2.1 = (suR f n 6 (exP f n 2058 (nxF f n i)).2.2).2.1 ∧ (waP f n i).2.2 = (suR f n 6 (exP f n 2058 (nxF f n i)).2.2).2.2) ∨ (¬ (exP f n 2058 (nxF f n i)).1 = 0 ∧ (waP f n i).1 = (exP f n 2058 (nxF f n i)).1 ∧ (waP f n i).2.1 = (exP f n 2058 (nxF f n i)).2.1) := sqP_s _ _
theorem lt_s1 (i : Int) : ((exP f n 2058 (nxF f n i)).1 = 0 ∧ (leP f n i).1 = (trP f n (unR f n 6) (exP f n 2058 (nxF f n i)).2.2).1 ∧ (leP f n i).2.1 = (trP f n (unR f n 6) (exP f n 2058 (nxF f n i)).2.2).2.1 ∧ (leP f n i).2.2 = (trP f n (unR f n 6) (exP f n 2058 (nxF f n i)).2.2).2.2) ∨ (¬ (exP f n 2058 (nxF f n i)).1 = 0 ∧ (leP f n i).1 = (exP f n 2058 (nxF f n i)).1 ∧ (leP f n i).2.1 = (exP f n 2058 (nxF f n i)).2.1) := sqP_s _ _
theorem li_o (k b i : Int) : (tkF f n i = 1003 ∧ (liP f n k b i).1 = (kiP f n k i).1 ∧ (liP f n k b i).2.1 = (kiP f n k i).2.1 ∧ (liP f n k b i).2.2 = (kiP f n k i).2.2) ∨ (tkF f n i = 1009 ∧ (liP f n k b i).1 = (buP f n b i).1 ∧ (liP f n k b i).2.1 = (buP f n b i).2.1 ∧ (liP f n k b i).2.2 = (buP f n b i).2.2) ∨ (tkF f n i = 1010 ∧ (liP f n k b i).1 = (waP f n i).1 ∧ (liP f n k b i).2.1 = (waP f n i).2.1 ∧ (liP f n k b i).2.2 = (waP f n i).2.2) ∨ (tkF f n i = 1011 ∧ (liP f n k b i).1 = (leP f n i).1 ∧ (liP f n k b i).2.1 = (leP f n i).2.1 ∧ (liP f n k b i).2.2 = (leP f n i).2.2) ∨ (¬ tkF f n i = 1003 ∧ ¬ tkF f n i = 1009 ∧ ¬ tkF f n i = 1010 ∧ ¬ tkF f n i = 1011 ∧ (liP f n k b i).1 = flP f n i 2 ∧ (liP f n k b i).2.1 = i) := by
  rcases liP_s f n k b i with ⟨a, e⟩ | ⟨a, e⟩ | ⟨a, e⟩ | ⟨a, e⟩ | a
  · rw [e]; exact Or.inl ⟨a, rfl, rfl, rfl⟩
  · rw [e]; exact Or.inr (Or.inl ⟨a, rfl, rfl, rfl⟩)
  · rw [e]; exact Or.inr (Or.inr (Or.inl ⟨a, rfl, rfl, rfl⟩))
  · rw [e]; exact Or.inr (Or.inr (Or.inr (Or.inl ⟨a, rfl, rfl, rfl⟩)))
  · exact Or.inr (Or.inr (Or.inr (Or.inr a)))
theorem ln_s (k b i : Int) : ((liP f n k b i).1 = 0 ∧ (lnP f n k b i).1 = (exP f n 2059 (liP f n k b i).2.2).1 ∧ (lnP f n k b i).2.1 = (exP f n 2059 (liP f n k b i).2.2).2.1 ∧ (lnP f n k b i).2.2 = (exP f n 2059 (liP f n k b i).2.2).2.2) ∨ (¬ (liP f n k b i).1 = 0 ∧ (lnP f n k b i).1 = (liP f n k b i).1 ∧ (lnP f n k b i).2.1 = (liP f n k b i).2.1) := sqP_s _ _
theorem hd_s : ((exP f n 1008 (runE blB f n 0)).1 = 0 ∧ (hdP f n).1 = (exP f n 2059 (exP f n 1008 (runE blB f n 0)).2.2).1 ∧ (hdP f n).2.1 = (exP f n 2059 (exP f n 1008 (runE blB f n 0)).2.2).2.1 ∧ (hdP f n).2.2 = (exP f n 2059 (exP f n 1008 (runE blB f n 0)).2.2).2.2) ∨ (¬ (exP f n 1008 (runE blB f n 0)).1 = 0 ∧ (hdP f n).1 = (exP f n 1008 (runE blB f n 0)).1 ∧ (hdP f n).2.1 = (exP f n 1008 (runE blB f n 0)).2.1) := sqP_s _ _
theorem mn_o (i k b l : Int) : i < 0 ∨ n < i ∨ (tkF f n i = 3001 ∧ (mnP f n i k b l).1 = 0 ∧ (mnP f n i k b l).2.2 = l) ∨ (¬ tkF f n i = 3001 ∧ (lnP f n k b i).1 = 0 ∧ (mnP f n i k b l).1 = (mnP f n (lnP f n k b i).2.2 (inc (tkF f n i) 1003 k) (inc (tkF f n i) 1009 b) (l + 1)).1 ∧ (mnP f n i k b l).2.1 = (mnP f n (lnP f n k b i).2.2 (inc (tkF f n i) 1003 k) (inc (tkF f n i) 1009 b) (l + 1)).2.1 ∧ (mnP f n i k b l).2.2 = (mnP f n (lnP f n k b i).2.2 (inc (tkF f n i) 1003 k) (inc (tkF f n i) 1009 b) (l + 1)).2.2) ∨ (¬ tkF f n i = 3001 ∧ ¬ (lnP f n k b i).1 = 0 ∧ (mnP f n i k b l).1 = (lnP f n k b i).1 ∧ (mnP f n i k b l).2.1 = (lnP f n k b i).2.1) := by
  by_cases q : 0 ≤ i ∧ i ≤ n
  · rcases mnP_s f n i k b l q with ⟨a, e⟩ | ⟨a, b, e⟩ | ⟨a, b, e⟩
    · rw [e]; exact Or.inr (Or.inr (Or.inl ⟨a, rfl, rfl⟩))
    · rw [e]; exact Or.inr (Or.inr (Or.inr (Or.inl ⟨a, b, rfl, rfl, rfl⟩)))
    · rw [e]; exact Or.inr (Or.inr (Or.inr (Or.inr ⟨a, b, rfl, rfl⟩)))
  · omega
theorem mn_c (i k b l k2 b2 l2 : Int) : ¬ k = k2 ∨ ¬ b = b2 ∨ ¬ l = l2 ∨ ((mnP f n i k b l).1 = (mnP f n i k2 b2 l2).1 ∧ (mnP f n i k b l).2.1 = (mnP f n i k2 b2 l2).2.1 ∧ (mnP f n i k b l).2.2 = (mnP f n i k2 b2 l2).2.2) := by
  by_cases h1 : k = k2
  · by_cases h2 : b = b2
    · by_cases h3 : l = l2
      · subst h1; subst h2; subst h3; exact Or.inr (Or.inr (Or.inr ⟨rfl, rfl, rfl⟩))
      · exact Or.inr (Or.inr (Or.inl h3))
    · exact Or.inr (Or.inl h2)
  · exact Or.inl h1
theorem rd_o : ((hdP f n).1 = 0 ∧ (rdP f n).1 = (mnP f n (hdP f n).2.2 0 0 1).1 ∧ (rdP f n).2.1 = (mnP f n (hdP f n).2.2 0 0 1).2.1 ∧ (rdP f n).2.2 = (mnP f n (hdP f n).2.2 0 0 1).2.2) ∨ (¬ (hdP f n).1 = 0 ∧ (rdP f n).1 = (hdP f n).1 ∧ (rdP f n).2.1 = (hdP f n).2.1) := by
  rcases rdP_s f n with ⟨a, e⟩ | ⟨a, e⟩
  · rw [e]; exact Or.inl ⟨a, rfl, rfl, rfl⟩
  · rw [e]; exact Or.inr ⟨a, rfl, rfl⟩
/-- one flag, if there is one; one mark -/
noncomputable def tfP (i : Int) : Int × Int × Int := if fgB f n i = true then fgS f n i else (0, 0, i)
theorem tf_o (i : Int) : (tkF f n i = 1005 ∧ (tfP f n i).1 = (nuP f n 0 9 (nxF f n i)).1 ∧ (tfP f n i).2.1 = (nuP f n 0 9 (nxF f n i)).2.1 ∧ (tfP f n i).2.2 = (nuP f n 0 9 (nxF f n i)).2.2) ∨ ((tkF f n i = 1007 ∨ tkF f n i = 1012) ∧ (tfP f n i).1 = 0 ∧ (tfP f n i).2.2 = nxF f n i) ∨ (¬ tkF f n i = 1005 ∧ ¬ tkF f n i = 1007 ∧ ¬ tkF f n i = 1012 ∧ (tfP f n i).1 = 0 ∧ (tfP f n i).2.2 = i) := by
  unfold tfP
  by_cases h : fgB f n i = true
  · rw [if_pos h]
    unfold fgB at h
    simp only [decide_eq_true_eq] at h
    unfold fgS
    by_cases h2 : tkF f n i = 1005
    · rw [if_pos h2]; exact Or.inl ⟨h2, rfl, rfl, rfl⟩
    · rw [if_neg h2]; exact Or.inr (Or.inl ⟨by omega, rfl, rfl⟩)
  · rw [if_neg h]
    unfold fgB at h
    simp only [decide_eq_true_eq] at h
    exact Or.inr (Or.inr ⟨by omega, by omega, by omega, rfl, rfl⟩)
theorem fg_o (i : Int) : i < 0 ∨ n < i ∨ ((tkF f n i = 1005 ∨ tkF f n i = 1007 ∨ tkF f n i = 1012) ∧ ¬ (tfP f n i).1 = 0 ∧ (fgP f n i).1 = (tfP f n i).1 ∧ (fgP f n i).2.1 = (tfP f n i).2.1) ∨ ((tkF f n i = 1005 ∨ tkF f n i = 1007 ∨ tkF f n i = 1012) ∧ (tfP f n i).1 = 0 ∧ (fgP f n i).1 = (fgP f n (tfP f n i).2.2).1 ∧ (fgP f n i).2.1 = (fgP f n (tfP f n i).2.2).2.1 ∧ (fgP f n i).2.2 = (fgP f n (tfP f n i).2.2).2.2 ∧ i < (tfP f n i).2.2 ∧ (tfP f n i).2.2 ≤ n) ∨ (¬ tkF f n i = 1005 ∧ ¬ tkF f n i = 1007 ∧ ¬ tkF f n i = 1012 ∧ (fgP f n i).1 = 0 ∧ (fgP f n i).2.2 = i ∧ (tfP f n i).1 = 0 ∧ (tfP f n i).2.2 = i) := by
  by_cases q : 0 ≤ i ∧ i ≤ n
  · have key := lpP_s n (fg_p f n) i q
    have e : ∀ j, fgP f n j = lpP n (fgB f n) (fgS f n) j := fun j => rfl
    rw [e i]
    by_cases h : fgB f n i = true
    · have et : tfP f n i = fgS f n i := by unfold tfP; rw [if_pos h]
      have hp := fg_p f n i q.1 q.2 h
      have ht : tkF f n i = 1005 ∨ tkF f n i = 1007 ∨ tkF f n i = 1012 := by unfold fgB at h; simpa only [decide_eq_true_eq] using h
      rw [et]
      rcases key with ⟨_, a, b, c⟩ | ⟨_, a, b⟩ | ⟨a, _⟩
      · exact Or.inr (Or.inr (Or.inl ⟨ht, a, b, c⟩))
      · rw [b]; exact Or.inr (Or.inr (Or.inr (Or.inl ⟨ht, a, rfl, rfl, rfl, hp.2 a⟩)))
      · exact absurd h a
    · have et : tfP f n i = (0, 0, i) := by unfold tfP; rw [if_neg h]
      have ht : ¬ (tkF f n i = 1005 ∨ tkF f n i = 1007 ∨ tkF f n i = 1012) := by unfold fgB at h; simpa only [decide_eq_true_eq] using h
      rw [et]
      rcases key with ⟨a, _⟩ | ⟨a, _⟩ | ⟨_, a⟩
      · exact absurd a h
      · exact absurd a h
      · rw [a]; exact Or.inr (Or.inr (Or.inr (Or.inr ⟨by omega, by omega, by omega, rfl, rfl, rfl, rfl⟩)))
  · omega
noncomputable def mkP (i : Int) : Int × Int × Int := if tqB f n 1002 1013 i = true then nuP f n 0 9 (nxF f n i) else (0, 0, i)
theorem mk_o (i : Int) : ((tkF f n i = 1002 ∨ tkF f n i = 1013) ∧ (mkP f n i).1 = (nuP f n 0 9 (nxF f n i)).1 ∧ (mkP f n i).2.1 = (nuP f n 0 9 (nxF f n i)).2.1 ∧ (mkP f n i).2.2 = (nuP f n 0 9 (nxF f n i)).2.2) ∨ (¬ tkF f n i = 1002 ∧ ¬ tkF f n i = 1013 ∧ (mkP f n i).1 = 0 ∧ (mkP f n i).2.2 = i) := by
  unfold mkP
  rcases tqB_s f n 1002 1013 i with ⟨a, b⟩ | ⟨a, b, c⟩
  · rw [if_pos a]; exact Or.inl ⟨b, rfl, rfl, rfl⟩
  · rw [if_neg a]; exact Or.inr ⟨b, c, rfl, rfl⟩
theorem ma_o (i : Int) : i < 0 ∨ n < i ∨ ((tkF f n i = 1002 ∨ tkF f n i = 1013) ∧ ¬ (mkP f n i).1 = 0 ∧ (luP f n 1002 1013 (nuP f n 0 9) i).1 = (mkP f n i).1 ∧ (luP f n 1002 1013 (nuP f n 0 9) i).2.1 = (mkP f n i).2.1) ∨ ((tkF f n i = 1002 ∨ tkF f n i = 1013) ∧ (mkP f n i).1 = 0 ∧ (luP f n 1002 1013 (nuP f n 0 9) i).1 = (luP f n 1002 1013 (nuP f n 0 9) (mkP f n i).2.2).1 ∧ (luP f n 1002 1013 (nuP f n 0 9) i).2.1 = (luP f n 1002 1013 (nuP f n 0 9) (mkP f n i).2.2).2.1 ∧ (luP f n 1002 1013 (nuP f n 0 9) i).2.2 = (luP f n 1002 1013 (nuP f n 0 9) (mkP f n i).2.2).2.2 ∧ i < (mkP f n i).2.2 ∧ (mkP f n i).2.2 ≤ n) ∨ (¬ tkF f n i = 1002 ∧ ¬ tkF f n i = 1013 ∧ (luP f n 1002 1013 (nuP f n 0 9) i).1 = 0 ∧ (luP f n 1002 1013 (nuP f n 0 9) i).2.2 = i ∧ (mkP f n i).1 = 0 ∧ (mkP f n i).2.2 = i) := by
  by_cases q : 0 ≤ i ∧ i ≤ n
  · have key := lpP_s n (lq_s f n (a := 1002) (b := 1013) (by decide) (nu_g f n 0 9)) i q
    rcases tqB_s f n 1002 1013 i with ⟨a, b⟩ | ⟨a, b, c⟩
    · have et : mkP f n i = nuP f n 0 9 (nxF f n i) := by unfold mkP; rw [if_pos a]
      have hp := lq_s f n (a := 1002) (b := 1013) (by decide) (nu_g f n 0 9) i q.1 q.2 a
      rw [et]
      rcases key with ⟨_, x, y, z⟩ | ⟨_, x, y⟩ | ⟨x, _⟩
      · exact Or.inr (Or.inr (Or.inl ⟨b, x, y, z⟩))
      · have y2 : luP f n 1002 1013 (nuP f n 0 9) i = luP f n 1002 1013 (nuP f n 0 9) (nuP f n 0 9 (nxF f n i)).2.2 := y
        rw [y2]; exact Or.inr (Or.inr (Or.inr (Or.inl ⟨b, x, rfl, rfl, rfl, hp.2 x⟩)))
      · exact absurd a x
    · have et : mkP f n i = (0, 0, i) := by unfold mkP; rw [if_neg a]
      rw [et]
      rcases key with ⟨x, _⟩ | ⟨x, _⟩ | ⟨_, x⟩
      · exact absurd x a
      · exact absurd x a
      · have y2 : luP f n 1002 1013 (nuP f n 0 9) i = (0, 0, i) := x
        rw [y2]; exact Or.inr (Or.inr (Or.inr (Or.inr ⟨b, c, rfl, rfl, rfl, rfl⟩)))
  · omega
end PQ
theorem mn_c4 (f : Nat → Int) (n i k b l i2 k2 b2 l2 : Int) : ¬ i = i2 ∨ ¬ k = k2 ∨ ¬ b = b2 ∨ ¬ l = l2 ∨ ((mnP f n i k b l).1 = (mnP f n i2 k2 b2 l2).1 ∧ (mnP f n i k b l).2.1 = (mnP f n i2 k2 b2 l2).2.1 ∧ (mnP f n i k b l).2.2 = (mnP f n i2 k2 b2 l2).2.2) := by
  by_cases h : i = i2
  · subst h; exact Or.inr (mn_c f n i k b l k2 b2 l2)
  · exact Or.inl h
noncomputable def lwP (f : Nat → Int) (n l i : Int) : Int × Int × Int := if l = 0 then waP f n i else leP f n i
theorem lw_o (f : Nat → Int) (n l i : Int) : (l = 0 ∧ (lwP f n l i).1 = (waP f n i).1 ∧ (lwP f n l i).2.1 = (waP f n i).2.1 ∧ (lwP f n l i).2.2 = (waP f n i).2.2) ∨ (¬ l = 0 ∧ (lwP f n l i).1 = (leP f n i).1 ∧ (lwP f n l i).2.1 = (leP f n i).2.1 ∧ (lwP f n l i).2.2 = (leP f n i).2.2) := by
  unfold lwP
  by_cases h : l = 0
  · rw [if_pos h]; exact Or.inl ⟨h, rfl, rfl, rfl⟩
  · rw [if_neg h]; exact Or.inr ⟨h, rfl, rfl, rfl⟩
theorem lw_c (f : Nat → Int) (n l k i : Int) : ¬ l = k ∨ ((lwP f n l i).1 = (lwP f n k i).1 ∧ (lwP f n l i).2.1 = (lwP f n k i).2.1 ∧ (lwP f n l i).2.2 = (lwP f n k i).2.2) := by
  by_cases h : l = k
  · subst h; exact Or.inr ⟨rfl, rfl, rfl⟩
  · exact Or.inl h
