/-! THE CLASS'S ROWS: plan p, stock v -/
def rwX (M : mm_M) (p v : Nat) : Nat → Int32 := clX M p v (M.1 v 4)
def skX (M : mm_M) (v : Nat) (j : Nat) : Int32 := if j < 23 then rwX M v v (26 + j) else 0
theorem s_stk : ∀ v, v < mm_N → s_c v = 8 → s_c (s_p0 v 1) = 25 ∧ s_c (s_p0 v 2) = 26 := by decide +kernel
theorem stk_c {v : Nat} (cv : s_c v = 8) : s_c (s_p0 v 1) = 25 ∧ s_c (s_p0 v 2) = 26 := s_stk v (s_c_lt cv (by decide)) cv
theorem pln_c {p : Nat} (cp : s_c p = 6) : s_c (s_p0 p 2) = 21 ∧ s_c (s_p0 p 3) = 22 ∧ s_c (s_p0 p 4) = 23 ∧ s_c (s_p0 p 5) = 24 := s_plan p (s_c_lt cp (by decide)) cp
/-- the stock's cells are as they were -/
def SKE (M N : mm_M) (v : Nat) : Prop := N.1 v = M.1 v ∧ N.1 (s_p0 v 1) = M.1 (s_p0 v 1) ∧ N.1 (s_p0 v 2) = M.1 (s_p0 v 2)
theorem rx_f {M N : mm_M} {p v : Nat} (hp : PLE M N p) (hv : SKE M N v) : rwX N p v = rwX M p v := by
  funext j
  unfold rwX clX
  rw [hp.1, hp.2.1, hp.2.2.1, hp.2.2.2.1, hp.2.2.2.2, hv.1, hv.2.1, hv.2.2]
theorem ske_f {S : List Nat} {M N : mm_M} {v : Nat} (hf : FX S M N) (cv : s_c v = 8) (hS : ∀ x ∈ S, s_c x ≠ 8 ∧ s_c x ≠ 25 ∧ s_c x ≠ 26) : SKE M N v :=
  ⟨hf.cell (fun q => (hS v q).1 cv), hf.cell (fun q => (hS _ q).2.1 (stk_c cv).1), hf.cell (fun q => (hS _ q).2.2 (stk_c cv).2)⟩
theorem ske_n {S : List Nat} {M N : mm_M} {v : Nat} (hf : FX S M N) (h : v ∉ S ∧ s_p0 v 1 ∉ S ∧ s_p0 v 2 ∉ S) : SKE M N v := ⟨hf.cell h.1, hf.cell h.2.1, hf.cell h.2.2⟩
theorem ple_8 {S : List Nat} {M N : mm_M} {p : Nat} (hf : FX S M N) (cp : s_c p = 6) (hS : ∀ x ∈ S, s_c x ≠ 6 ∧ s_c x ≠ 21 ∧ s_c x ≠ 22 ∧ s_c x ≠ 23 ∧ s_c x ≠ 24) : PLE M N p := ple_f hf cp hS
theorem ple_t {M N K : mm_M} {p : Nat} (a : PLE M N p) (b : PLE N K p) : PLE M K p := ⟨b.1.trans a.1, b.2.1.trans a.2.1, b.2.2.1.trans a.2.2.1, b.2.2.2.1.trans a.2.2.2.1, b.2.2.2.2.trans a.2.2.2.2⟩
theorem ple_r (M : mm_M) (p : Nat) : PLE M M p := ⟨rfl, rfl, rfl, rfl, rfl⟩
theorem ple_v {M N : mm_M} {p v k : Nat} {x : Int32} (e : N = wI M v k x) (cp : s_c p = 6) (cv : ¬ (s_c v = 6 ∨ s_c v = 21 ∨ s_c v = 22 ∨ s_c v = 23 ∨ s_c v = 24)) : PLE M N p := by
  have q := pln_c cp
  exact ⟨wI_cell e (fun z => cv (by rw [← z]; exact Or.inl cp)), wI_cell e (fun z => cv (by rw [← z]; exact Or.inr (Or.inl q.1))), wI_cell e (fun z => cv (by rw [← z]; exact Or.inr (Or.inr (Or.inl q.2.1)))), wI_cell e (fun z => cv (by rw [← z]; exact Or.inr (Or.inr (Or.inr (Or.inl q.2.2.1))))), wI_cell e (fun z => cv (by rw [← z]; exact Or.inr (Or.inr (Or.inr (Or.inr q.2.2.2)))))⟩

theorem cl_8 (M : mm_M) (p v : Nat) (h : Int32) {j : Nat} (hj : 8 ≤ j ∧ j < 14) : clX M p v h j = M.1 (s_p0 p 2) (j - 8) := by
  unfold clX
  rw [if_neg (show ¬ j = 0 by omega), if_neg (show ¬ j = 1 by omega), if_neg (show ¬ j = 2 by omega), if_neg (show ¬ j = 3 by omega), if_neg (show ¬ j = 4 by omega), if_neg (show ¬ j = 5 by omega), if_neg (show ¬ j = 6 by omega), if_neg (show ¬ j = 7 by omega), if_pos (show j < 14 by omega)]
theorem cl_14 (M : mm_M) (p v : Nat) (h : Int32) {j : Nat} (hj : 14 ≤ j ∧ j < 20) : clX M p v h j = M.1 (s_p0 p 3) (j - 14) := by
  unfold clX
  rw [if_neg (show ¬ j = 0 by omega), if_neg (show ¬ j = 1 by omega), if_neg (show ¬ j = 2 by omega), if_neg (show ¬ j = 3 by omega), if_neg (show ¬ j = 4 by omega), if_neg (show ¬ j = 5 by omega), if_neg (show ¬ j = 6 by omega), if_neg (show ¬ j = 7 by omega), if_neg (show ¬ j < 14 by omega), if_pos (show j < 20 by omega)]
theorem cl_20 (M : mm_M) (p v : Nat) (h : Int32) {j : Nat} (hj : 20 ≤ j ∧ j < 26) : clX M p v h j = M.1 (s_p0 p 4) (j - 20) := by
  unfold clX
  rw [if_neg (show ¬ j = 0 by omega), if_neg (show ¬ j = 1 by omega), if_neg (show ¬ j = 2 by omega), if_neg (show ¬ j = 3 by omega), if_neg (show ¬ j = 4 by omega), if_neg (show ¬ j = 5 by omega), if_neg (show ¬ j = 6 by omega), if_neg (show ¬ j = 7 by omega), if_neg (show ¬ j < 14 by omega), if_neg (show ¬ j < 20 by omega), if_pos (show j < 26 by omega)]
theorem cl_33 (M : mm_M) (p v : Nat) (h : Int32) {j : Nat} (hj : 33 ≤ j ∧ j < 41) : clX M p v h j = M.1 (s_p0 v 1) (j - 33) := by
  unfold clX
  rw [if_neg (show ¬ j = 0 by omega), if_neg (show ¬ j = 1 by omega), if_neg (show ¬ j = 2 by omega), if_neg (show ¬ j = 3 by omega), if_neg (show ¬ j = 4 by omega), if_neg (show ¬ j = 5 by omega), if_neg (show ¬ j = 6 by omega), if_neg (show ¬ j = 7 by omega), if_neg (show ¬ j < 14 by omega), if_neg (show ¬ j < 20 by omega), if_neg (show ¬ j < 26 by omega), if_neg (show ¬ j = 26 by omega), if_neg (show ¬ j = 27 by omega), if_neg (show ¬ j = 28 by omega), if_neg (show ¬ j = 29 by omega), if_neg (show ¬ j = 30 by omega), if_neg (show ¬ j = 31 by omega), if_neg (show ¬ j = 32 by omega), if_pos (show j < 41 by omega)]
theorem cl_41 (M : mm_M) (p v : Nat) (h : Int32) {j : Nat} (hj : 41 ≤ j ∧ j < 49) : clX M p v h j = M.1 (s_p0 v 2) (j - 41) := by
  unfold clX
  rw [if_neg (show ¬ j = 0 by omega), if_neg (show ¬ j = 1 by omega), if_neg (show ¬ j = 2 by omega), if_neg (show ¬ j = 3 by omega), if_neg (show ¬ j = 4 by omega), if_neg (show ¬ j = 5 by omega), if_neg (show ¬ j = 6 by omega), if_neg (show ¬ j = 7 by omega), if_neg (show ¬ j < 14 by omega), if_neg (show ¬ j < 20 by omega), if_neg (show ¬ j < 26 by omega), if_neg (show ¬ j = 26 by omega), if_neg (show ¬ j = 27 by omega), if_neg (show ¬ j = 28 by omega), if_neg (show ¬ j = 29 by omega), if_neg (show ¬ j = 30 by omega), if_neg (show ¬ j = 31 by omega), if_neg (show ¬ j = 32 by omega), if_neg (show ¬ j < 41 by omega), if_pos (show j < 49 by omega)]
theorem cl_281 (M : mm_M) (p v : Nat) (h : Int32) {j : Nat} (hj : 281 ≤ j) : clX M p v h j = sI (cmF (M.1 (s_p0 p 5) (j - 281)).toInt) := by
  unfold clX
  rw [if_neg (show ¬ j = 0 by omega), if_neg (show ¬ j = 1 by omega), if_neg (show ¬ j = 2 by omega), if_neg (show ¬ j = 3 by omega), if_neg (show ¬ j = 4 by omega), if_neg (show ¬ j = 5 by omega), if_neg (show ¬ j = 6 by omega), if_neg (show ¬ j = 7 by omega), if_neg (show ¬ j < 14 by omega), if_neg (show ¬ j < 20 by omega), if_neg (show ¬ j < 26 by omega), if_neg (show ¬ j = 26 by omega), if_neg (show ¬ j = 27 by omega), if_neg (show ¬ j = 28 by omega), if_neg (show ¬ j = 29 by omega), if_neg (show ¬ j = 30 by omega), if_neg (show ¬ j = 31 by omega), if_neg (show ¬ j = 32 by omega), if_neg (show ¬ j < 41 by omega), if_neg (show ¬ j < 49 by omega), if_neg (show ¬ j < 281 by omega)]
theorem cl_lo {M N : mm_M} {p v : Nat} (h : Int32) {j : Nat} (hp : PLE M N p) (hv : N.1 v = M.1 v) (hj : j < 33) : clX N p v h j = clX M p v h j := by
  unfold clX
  rw [hp.1, hp.2.1, hp.2.2.1, hp.2.2.2.1, hp.2.2.2.2, hv]
  rcases (show j = 0 ∨ j = 1 ∨ j = 2 ∨ j = 3 ∨ j = 4 ∨ j = 5 ∨ j = 6 ∨ j = 7 ∨ j = 8 ∨ j = 9 ∨ j = 10 ∨ j = 11 ∨ j = 12 ∨ j = 13 ∨ j = 14 ∨ j = 15 ∨ j = 16 ∨ j = 17 ∨ j = 18 ∨ j = 19 ∨ j = 20 ∨ j = 21 ∨ j = 22 ∨ j = 23 ∨ j = 24 ∨ j = 25 ∨ j = 26 ∨ j = 27 ∨ j = 28 ∨ j = 29 ∨ j = 30 ∨ j = 31 ∨ j = 32 by omega) with rfl | rfl | rfl | rfl | rfl | rfl | rfl | rfl | rfl | rfl | rfl | rfl | rfl | rfl | rfl | rfl | rfl | rfl | rfl | rfl | rfl | rfl | rfl | rfl | rfl | rfl | rfl | rfl | rfl | rfl | rfl | rfl | rfl <;> rfl
theorem cl_hi {M N : mm_M} {p v : Nat} (h h' : Int32) {j : Nat} (hp : PLE M N p) (hj : 49 ≤ j) : clX N p v h' j = clX M p v h j := by
  unfold clX
  rw [if_neg (show ¬ j = 0 by omega), if_neg (show ¬ j = 0 by omega), if_neg (show ¬ j = 1 by omega), if_neg (show ¬ j = 1 by omega), if_neg (show ¬ j = 2 by omega), if_neg (show ¬ j = 2 by omega), if_neg (show ¬ j = 3 by omega), if_neg (show ¬ j = 3 by omega), if_neg (show ¬ j = 4 by omega), if_neg (show ¬ j = 4 by omega), if_neg (show ¬ j = 5 by omega), if_neg (show ¬ j = 5 by omega), if_neg (show ¬ j = 6 by omega), if_neg (show ¬ j = 6 by omega), if_neg (show ¬ j = 7 by omega), if_neg (show ¬ j = 7 by omega), if_neg (show ¬ j < 14 by omega), if_neg (show ¬ j < 14 by omega), if_neg (show ¬ j < 20 by omega), if_neg (show ¬ j < 20 by omega), if_neg (show ¬ j < 26 by omega), if_neg (show ¬ j < 26 by omega), if_neg (show ¬ j = 26 by omega), if_neg (show ¬ j = 26 by omega), if_neg (show ¬ j = 27 by omega), if_neg (show ¬ j = 27 by omega), if_neg (show ¬ j = 28 by omega), if_neg (show ¬ j = 28 by omega), if_neg (show ¬ j = 29 by omega), if_neg (show ¬ j = 29 by omega), if_neg (show ¬ j = 30 by omega), if_neg (show ¬ j = 30 by omega), if_neg (show ¬ j = 31 by omega), if_neg (show ¬ j = 31 by omega), if_neg (show ¬ j = 32 by omega), if_neg (show ¬ j = 32 by omega), if_neg (show ¬ j < 41 by omega), if_neg (show ¬ j < 41 by omega), if_neg (show ¬ j < 49 by omega), if_neg (show ¬ j < 49 by omega), hp.2.2.2.2]
theorem rx_26 {M N : mm_M} {p v : Nat} {x : Int} (cp : s_c p = 6) (cv : s_c v = 8) (e : N = wI M v 0 (sI x)) : rwX N p v = uR (rwX M p v) 26 x := by
  have hp := ple_v (p := p) e cp (by omega)
  have s1 : N.1 (s_p0 v 1) = M.1 (s_p0 v 1) := wI_cell e (s_ne (stk_c cv).1 cv (by decide))
  have s2 : N.1 (s_p0 v 2) = M.1 (s_p0 v 2) := wI_cell e (s_ne (stk_c cv).2 cv (by decide))
  have hv : ∀ k, k ≠ 0 → N.1 v k = M.1 v k := fun k h => congrFun (show N.1 v = uR (M.1 v) 0 x from uR_w e) k |>.trans (uR_n h)
  funext j
  unfold rwX clX
  rw [hp.1, hp.2.1, hp.2.2.1, hp.2.2.2.1, hp.2.2.2.2, s1, s2, hv 3 (by decide), hv 4 (by decide), hv 5 (by decide), hv 6 (by decide), hv 7 (by decide), hv 8 (by decide), show N.1 v 0 = sI x from wI_at e]
  by_cases q : j = 26
  · subst q; rw [uR_s]; rfl
  · rw [uR_n q]; simp only [if_neg q]
theorem rx_27 {M N : mm_M} {p v : Nat} {x : Int} (cp : s_c p = 6) (cv : s_c v = 8) (e : N = wI M v 3 (sI x)) : rwX N p v = uR (rwX M p v) 27 x := by
  have hp := ple_v (p := p) e cp (by omega)
  have s1 : N.1 (s_p0 v 1) = M.1 (s_p0 v 1) := wI_cell e (s_ne (stk_c cv).1 cv (by decide))
  have s2 : N.1 (s_p0 v 2) = M.1 (s_p0 v 2) := wI_cell e (s_ne (stk_c cv).2 cv (by decide))
  have hv : ∀ k, k ≠ 3 → N.1 v k = M.1 v k := fun k h => congrFun (show N.1 v = uR (M.1 v) 3 x from uR_w e) k |>.trans (uR_n h)
  funext j
  unfold rwX clX
  rw [hp.1, hp.2.1, hp.2.2.1, hp.2.2.2.1, hp.2.2.2.2, s1, s2, hv 0 (by decide), hv 4 (by decide), hv 5 (by decide), hv 6 (by decide), hv 7 (by decide), hv 8 (by decide), show N.1 v 3 = sI x from wI_at e]
  by_cases q : j = 27
  · subst q; rw [uR_s]; rfl
  · rw [uR_n q]; simp only [if_neg q]
theorem rx_28 {M N : mm_M} {p v : Nat} {x : Int} (cp : s_c p = 6) (cv : s_c v = 8) (e : N = wI M v 4 (sI x)) : rwX N p v = uR (rwX M p v) 28 x := by
  have hp := ple_v (p := p) e cp (by omega)
  have s1 : N.1 (s_p0 v 1) = M.1 (s_p0 v 1) := wI_cell e (s_ne (stk_c cv).1 cv (by decide))
  have s2 : N.1 (s_p0 v 2) = M.1 (s_p0 v 2) := wI_cell e (s_ne (stk_c cv).2 cv (by decide))
  have hv : ∀ k, k ≠ 4 → N.1 v k = M.1 v k := fun k h => congrFun (show N.1 v = uR (M.1 v) 4 x from uR_w e) k |>.trans (uR_n h)
  funext j
  unfold rwX clX
  rw [hp.1, hp.2.1, hp.2.2.1, hp.2.2.2.1, hp.2.2.2.2, s1, s2, hv 0 (by decide), hv 3 (by decide), hv 5 (by decide), hv 6 (by decide), hv 7 (by decide), hv 8 (by decide), show N.1 v 4 = sI x from wI_at e]
  by_cases q : j = 28
  · subst q; rw [uR_s]; rfl
  · rw [uR_n q]; simp only [if_neg q]
theorem rx_29 {M N : mm_M} {p v : Nat} {x : Int} (cp : s_c p = 6) (cv : s_c v = 8) (e : N = wI M v 5 (sI x)) : rwX N p v = uR (rwX M p v) 29 x := by
  have hp := ple_v (p := p) e cp (by omega)
  have s1 : N.1 (s_p0 v 1) = M.1 (s_p0 v 1) := wI_cell e (s_ne (stk_c cv).1 cv (by decide))
  have s2 : N.1 (s_p0 v 2) = M.1 (s_p0 v 2) := wI_cell e (s_ne (stk_c cv).2 cv (by decide))
  have hv : ∀ k, k ≠ 5 → N.1 v k = M.1 v k := fun k h => congrFun (show N.1 v = uR (M.1 v) 5 x from uR_w e) k |>.trans (uR_n h)
  funext j
  unfold rwX clX
  rw [hp.1, hp.2.1, hp.2.2.1, hp.2.2.2.1, hp.2.2.2.2, s1, s2, hv 0 (by decide), hv 3 (by decide), hv 4 (by decide), hv 6 (by decide), hv 7 (by decide), hv 8 (by decide), show N.1 v 5 = sI x from wI_at e]
  by_cases q : j = 29
  · subst q; rw [uR_s]; rfl
  · rw [uR_n q]; simp only [if_neg q]
theorem rx_30 {M N : mm_M} {p v : Nat} {x : Int} (cp : s_c p = 6) (cv : s_c v = 8) (e : N = wI M v 6 (sI x)) : rwX N p v = uR (rwX M p v) 30 x := by
  have hp := ple_v (p := p) e cp (by omega)
  have s1 : N.1 (s_p0 v 1) = M.1 (s_p0 v 1) := wI_cell e (s_ne (stk_c cv).1 cv (by decide))
  have s2 : N.1 (s_p0 v 2) = M.1 (s_p0 v 2) := wI_cell e (s_ne (stk_c cv).2 cv (by decide))
  have hv : ∀ k, k ≠ 6 → N.1 v k = M.1 v k := fun k h => congrFun (show N.1 v = uR (M.1 v) 6 x from uR_w e) k |>.trans (uR_n h)
  funext j
  unfold rwX clX
  rw [hp.1, hp.2.1, hp.2.2.1, hp.2.2.2.1, hp.2.2.2.2, s1, s2, hv 0 (by decide), hv 3 (by decide), hv 4 (by decide), hv 5 (by decide), hv 7 (by decide), hv 8 (by decide), show N.1 v 6 = sI x from wI_at e]
  by_cases q : j = 30
  · subst q; rw [uR_s]; rfl
  · rw [uR_n q]; simp only [if_neg q]
theorem rx_31 {M N : mm_M} {p v : Nat} {x : Int} (cp : s_c p = 6) (cv : s_c v = 8) (e : N = wI M v 7 (sI x)) : rwX N p v = uR (rwX M p v) 31 x := by
  have hp := ple_v (p := p) e cp (by omega)
  have s1 : N.1 (s_p0 v 1) = M.1 (s_p0 v 1) := wI_cell e (s_ne (stk_c cv).1 cv (by decide))
  have s2 : N.1 (s_p0 v 2) = M.1 (s_p0 v 2) := wI_cell e (s_ne (stk_c cv).2 cv (by decide))
  have hv : ∀ k, k ≠ 7 → N.1 v k = M.1 v k := fun k h => congrFun (show N.1 v = uR (M.1 v) 7 x from uR_w e) k |>.trans (uR_n h)
  funext j
  unfold rwX clX
  rw [hp.1, hp.2.1, hp.2.2.1, hp.2.2.2.1, hp.2.2.2.2, s1, s2, hv 0 (by decide), hv 3 (by decide), hv 4 (by decide), hv 5 (by decide), hv 6 (by decide), hv 8 (by decide), show N.1 v 7 = sI x from wI_at e]
  by_cases q : j = 31
  · subst q; rw [uR_s]; rfl
  · rw [uR_n q]; simp only [if_neg q]
theorem rx_32 {M N : mm_M} {p v : Nat} {x : Int} (cp : s_c p = 6) (cv : s_c v = 8) (e : N = wI M v 8 (sI x)) : rwX N p v = uR (rwX M p v) 32 x := by
  have hp := ple_v (p := p) e cp (by omega)
  have s1 : N.1 (s_p0 v 1) = M.1 (s_p0 v 1) := wI_cell e (s_ne (stk_c cv).1 cv (by decide))
  have s2 : N.1 (s_p0 v 2) = M.1 (s_p0 v 2) := wI_cell e (s_ne (stk_c cv).2 cv (by decide))
  have hv : ∀ k, k ≠ 8 → N.1 v k = M.1 v k := fun k h => congrFun (show N.1 v = uR (M.1 v) 8 x from uR_w e) k |>.trans (uR_n h)
  funext j
  unfold rwX clX
  rw [hp.1, hp.2.1, hp.2.2.1, hp.2.2.2.1, hp.2.2.2.2, s1, s2, hv 0 (by decide), hv 3 (by decide), hv 4 (by decide), hv 5 (by decide), hv 6 (by decide), hv 7 (by decide), show N.1 v 8 = sI x from wI_at e]
  by_cases q : j = 32
  · subst q; rw [uR_s]; rfl
  · rw [uR_n q]; simp only [if_neg q]
theorem rx_p {M N : mm_M} {p v : Nat} {x k : Int} (cp : s_c p = 6) (cv : s_c v = 8) (e : N = wI M (s_p0 v 1) k.toNat (sI x)) (hk : 0 ≤ k ∧ k < 8) : rwX N p v = uR (rwX M p v) (33 + k).toNat x := by
  have st := stk_c cv
  have hp := ple_v (p := p) e cp (by omega)
  have s0 : N.1 v = M.1 v := wI_cell e (s_ne cv st.1 (by decide))
  have s1 : N.1 (s_p0 v 2) = M.1 (s_p0 v 2) := wI_cell e (s_ne st.2 st.1 (by decide))
  have hv : ∀ i, i ≠ k.toNat → N.1 (s_p0 v 1) i = M.1 (s_p0 v 1) i := fun i h => congrFun (show N.1 (s_p0 v 1) = uR (M.1 (s_p0 v 1)) k.toNat x from uR_w e) i |>.trans (uR_n h)
  funext j
  by_cases q : j = (33 + k).toNat
  · subst q
    rw [uR_s]
    unfold rwX
    rw [cl_33 N p v _ (by omega), show (33 + k).toNat - 33 = k.toNat by omega]; exact wI_at e
  · rw [uR_n q]
    unfold rwX
    by_cases d : 33 ≤ j ∧ j < 41
    · rw [cl_33 N p v _ d, cl_33 M p v _ d, hv (j - 33) (by omega)]
    · by_cases d1 : j < 33
      · exact cl_lo _ hp s0 d1 |>.trans (by rw [s0])
      by_cases d2 : 49 ≤ j
      · exact cl_hi _ _ hp d2
      · rw [cl_41 N p v _ (by omega), cl_41 M p v _ (by omega), s1]
theorem rx_g {M N : mm_M} {p v : Nat} {x k : Int} (cp : s_c p = 6) (cv : s_c v = 8) (e : N = wI M (s_p0 v 2) k.toNat (sI x)) (hk : 0 ≤ k ∧ k < 8) : rwX N p v = uR (rwX M p v) (41 + k).toNat x := by
  have st := stk_c cv
  have hp := ple_v (p := p) e cp (by omega)
  have s0 : N.1 v = M.1 v := wI_cell e (s_ne cv st.2 (by decide))
  have s1 : N.1 (s_p0 v 1) = M.1 (s_p0 v 1) := wI_cell e (s_ne st.1 st.2 (by decide))
  have hv : ∀ i, i ≠ k.toNat → N.1 (s_p0 v 2) i = M.1 (s_p0 v 2) i := fun i h => congrFun (show N.1 (s_p0 v 2) = uR (M.1 (s_p0 v 2)) k.toNat x from uR_w e) i |>.trans (uR_n h)
  funext j
  by_cases q : j = (41 + k).toNat
  · subst q
    rw [uR_s]
    unfold rwX
    rw [cl_41 N p v _ (by omega), show (41 + k).toNat - 41 = k.toNat by omega]; exact wI_at e
  · rw [uR_n q]
    unfold rwX
    by_cases d : 41 ≤ j ∧ j < 49
    · rw [cl_41 N p v _ d, cl_41 M p v _ d, hv (j - 41) (by omega)]
    · by_cases d1 : j < 33
      · exact cl_lo _ hp s0 d1 |>.trans (by rw [s0])
      by_cases d2 : 49 ≤ j
      · exact cl_hi _ _ hp d2
      · rw [cl_33 N p v _ (by omega), cl_33 M p v _ (by omega), s1]
/-- a deed that can't be leaves the row -/
def dvS (w : Int) (f g : Nat → Int32) : Nat → Int32 := if w = 0 then g else f
theorem dv_y {w a : Int} {f g N : Nat → Int32} (h : w = 0) (e : N = g) : b01 (N = dvS w f g) = 1 ∧ aI w a = a := by
  unfold dvS aI; rw [if_pos h, if_pos h]; exact ⟨b01_i e, rfl⟩
theorem dv_n {w : Int} {f N : Nat → Int32} (h : ¬ w = 0) (e : N = f) (g : Nat → Int32) (a : Int) : b01 (N = dvS w f g) = 1 ∧ aI w a = -10 - w := by
  unfold dvS aI; rw [if_neg h, if_neg h]; exact ⟨b01_i e, rfl⟩
/-- whether it is shut, as the class reckons it -/
theorem shY (M : mm_M) (p v : Nat) : (andI (andI (pw2 (M.1 v 0).toInt - 1) (-1 - (M.1 v 4).toInt)) (-1 - (M.1 v 3).toInt) = 0 ∧ shF (rwX M p v) (rwX M p v 27).toInt = 1) ∨ (¬ andI (andI (pw2 (M.1 v 0).toInt - 1) (-1 - (M.1 v 4).toInt)) (-1 - (M.1 v 3).toInt) = 0 ∧ shF (rwX M p v) (rwX M p v 27).toInt = 0) := shF_s (rwX M p v) (rwX M p v 27).toInt
theorem rx_k (M : mm_M) (p v : Nat) {k : Int} (hk : 0 ≤ k ∧ k < 8) : rwX M p v (33 + k).toNat = M.1 (s_p0 v 1) k.toNat ∧ rwX M p v (41 + k).toNat = M.1 (s_p0 v 2) k.toNat := ⟨(cl_k M p v _ hk).1, (cl_k M p v _ hk).2.1⟩
theorem rx_b (M : mm_M) (p v : Nat) {b : Int} (hb : 0 ≤ b ∧ b < 6) : rwX M p v (8 + b).toNat = M.1 (s_p0 p 2) b.toNat ∧ rwX M p v (14 + b).toNat = M.1 (s_p0 p 3) b.toNat ∧ rwX M p v (20 + b).toNat = M.1 (s_p0 p 4) b.toNat := by
  unfold rwX
  rw [cl_8 M p v _ (by omega), cl_14 M p v _ (by omega), cl_20 M p v _ (by omega), show (8 + b).toNat - 8 = b.toNat by omega, show (14 + b).toNat - 14 = b.toNat by omega, show (20 + b).toNat - 20 = b.toNat by omega]
  exact ⟨rfl, rfl, rfl⟩
theorem rx_l (M : mm_M) (p v : Nat) : rwX M p v 0 = M.1 p 1 ∧ rwX M p v 1 = M.1 p 0 ∧ rwX M p v 26 = M.1 v 0 ∧ rwX M p v 27 = M.1 v 3 ∧ rwX M p v 28 = M.1 v 4 ∧ rwX M p v 29 = M.1 v 5 ∧ rwX M p v 30 = M.1 v 6 ∧ rwX M p v 31 = M.1 v 7 ∧ rwX M p v 32 = M.1 v 8 := ⟨rfl, rfl, rfl, rfl, rfl, rfl, rfl, rfl, rfl⟩
/-! the plan's laws -/
def ODB (M : mm_M) (p : Nat) : Prop := ∀ b : Int, 0 ≤ b → b < (M.1 p 0).toInt → 0 ≤ (M.1 (s_p0 p 4) b.toNat).toInt ∧ (M.1 (s_p0 p 4) b.toNat).toInt ≤ 9
theorem od_at {M : mm_M} {p : Nat} (h : b01 (ODB M p) = 1) (b : Int) : b < 0 ∨ (M.1 p 0).toInt ≤ b ∨ (0 ≤ (M.1 (s_p0 p 4) b.toNat).toInt ∧ (M.1 (s_p0 p 4) b.toNat).toInt ≤ 9) := by
  by_cases q : 0 ≤ b ∧ b < (M.1 p 0).toInt
  · exact Or.inr (Or.inr (b01_e h b q.1 q.2))
  · omega
def LAW (M : mm_M) (p : Nat) : Prop := LWX M p 7 8 ∧ LWX M p 9 10 ∧ BTW M p ∧ ODB M p
theorem law_p {M N : mm_M} {p : Nat} (hp : PLE M N p) (h7 : 0 ≤ (M.1 p 7).toInt) (h9 : 0 ≤ (M.1 p 9).toInt) (h : b01 (LAW M p) = 1) : b01 (LAW N p) = 1 := by
  have h := b01_e h
  exact b01_i ⟨b01_e (lwx_p hp h7 (b01_i h.1)), b01_e (lwx_p hp h9 (b01_i h.2.1)), b01_e (btw_p hp h9 (b01_i h.2.2.1)), by unfold ODB; rw [hp.1, hp.2.2.2.1]; exact h.2.2.2⟩
theorem law_e {M : mm_M} {p : Nat} (h : b01 (LAW M p) = 1) : b01 (LWX M p 7 8) = 1 ∧ b01 (LWX M p 9 10) = 1 ∧ b01 (BTW M p) = 1 ∧ b01 (ODB M p) = 1 := by
  have h := b01_e h
  exact ⟨b01_i h.1, b01_i h.2.1, b01_i h.2.2.1, b01_i h.2.2.2⟩
/-- every kind's price is 1 to 99 -/
def PRR (f : Nat → Int32) : Prop := (0 ≤ (f 26).toInt ∧ (f 26).toInt ≤ 8) ∧ ∀ k : Int, 0 ≤ k → k < (f 26).toInt → 1 ≤ (f (33 + k).toNat).toInt ∧ (f (33 + k).toNat).toInt ≤ 99
theorem prr_s {M : mm_M} {p v : Nat} (h : b01 (PRR (rwX M p v)) = 1) : b01 (PRS M (s_p0 v 1) (M.1 v 0).toInt) = 1 := b01_i (fun k h0 h1 => by
  obtain ⟨a, b⟩ := b01_e h
  have a : 0 ≤ (M.1 v 0).toInt ∧ (M.1 v 0).toInt ≤ 8 := a
  have := b k h0 h1
  rw [(rx_k M p v (by omega)).1] at this
  omega)
theorem prr_k {f : Nat → Int32} (h : b01 (PRR f) = 1) (k : Int) : k < 0 ∨ (f 26).toInt ≤ k ∨ (1 ≤ (f (33 + k).toNat).toInt ∧ (f (33 + k).toNat).toInt ≤ 99) := by
  by_cases q : 0 ≤ k ∧ k < (f 26).toInt
  · exact Or.inr (Or.inr ((b01_e h).2 k q.1 q.2))
  · omega
theorem prr_u {f : Nat → Int32} {k : Nat} {x : Int} (h : PRR f) (hk : k < 26 ∨ (26 < k ∧ k < 33) ∨ 41 ≤ k) : PRR (uR f k x) := by
  unfold PRR
  rw [uR_n (show 26 ≠ k by omega)]
  refine ⟨h.1, fun i h0 h1 => ?_⟩
  rw [uR_n (by have := h.1; omega)]
  exact h.2 i h0 h1
theorem prr_p {f : Nat → Int32} {k x : Int} (h : PRR f) (hk : 0 ≤ k) (hx : 1 ≤ x ∧ x ≤ 99) : PRR (uR f (33 + k).toNat x) := by
  unfold PRR
  rw [uR_n (show 26 ≠ (33 + k).toNat by omega)]
  refine ⟨h.1, fun i h0 h1 => ?_⟩
  by_cases c : i = k
  · subst c; rw [uR_s, sI_t (by omega)]; exact hx
  · rw [uR_n (by omega)]; exact h.2 i h0 h1
theorem prr_vs {f : Nat → Int32} (h : PRR f) (b : Int) : PRR (vsS f b) := prr_u (prr_u h (by decide)) (by decide)
theorem prr_dg {f : Nat → Int32} (h : PRR f) : PRR (dgS f) := prr_u h (by decide)
theorem prr_dr {f : Nat → Int32} (h : PRR f) : PRR (drS f) := prr_u h (by decide)
theorem prr_dy {f : Nat → Int32} (h : PRR f) : PRR (dyS f) := by
  unfold dyS
  repeat' split
  · exact prr_dg h
  · exact prr_vs (prr_dr (prr_dg h)) _
  · exact prr_dr (prr_dg h)
theorem prr_do {f : Nat → Int32} (h : PRR f) {v : Int} (hw : wnF f v = 0) : PRR (doS f v) := by
  have s := wnF_s f v
  by_cases q1 : v = -1
  · rw [do_m f q1]; exact prr_dy h
  by_cases q2 : v < 100
  · rw [do_v f (by omega)]; exact prr_vs h v
  by_cases q3 : v < 200
  · rw [do_g f (by omega)]; exact prr_u h (by decide)
  by_cases q4 : v < 1000
  · rw [do_h f (by omega)]; exact prr_u h (by decide)
  · rw [do_p f (by omega)]
    have w := wpF_s f ((v - 1000) / 100) (v % 100)
    exact prr_p h (by omega) (by omega)
theorem prr_as {f : Nat → Int32} (h : PRR f) {n g : Int} (hw : waF f n g = 0) : PRR (asS f n g) := by
  have w := waF_s f n g
  have h1 := h.1
  unfold asS
  refine prr_u ?_ (by omega)
  unfold PRR
  rw [uR_n (show 26 ≠ (33 + (f 26).toInt).toNat by omega), uR_s, sI_t (by omega)]
  refine ⟨by omega, fun i h0 h1 => ?_⟩
  by_cases c : i = (f 26).toInt
  · rw [c, uR_s, sI_t (by omega)]; omega
  · rw [uR_n (by omega), uR_n (by omega)]; exact h.2 i h0 (by omega)
/-! gifts stay within bounds -/
theorem gf_do {f : Nat → Int32} {v : Int} (h0 : 0 ≤ (f 30).toInt) (h1 : (f 30).toInt < 2147483647) (hw : wnF f v = 0) : 0 ≤ (doS f v 30).toInt ∧ (doS f v 30).toInt ≤ (f 30).toInt + 1 := by
  have s := wnF_s f v
  have vs : ∀ (g : Nat → Int32) (b : Int), vsS g b 30 = g 30 := fun g b => by unfold vsS; rw [uR_n (by decide), uR_n (by decide)]
  have dg : dgS f 30 = f 30 := uR_n (by decide)
  have de : deS f 30 = f 30 := by unfold deS drS; rw [uR_n (by decide)]; exact dg
  by_cases q1 : v = -1
  · rw [do_m f q1]
    unfold dyS
    repeat' split
    · rw [dg]; omega
    · rw [vs, de]; omega
    · rw [de]; omega
  by_cases q2 : v < 100
  · rw [do_v f (by omega), vs]; omega
  by_cases q3 : v < 200
  · rw [do_g f (by omega)]
    unfold gsS
    rw [uR_s]
    have : (sI (addI (f 30).toInt 1)).toInt = (f 30).toInt + 1 := by rw [show sI (addI (f 30).toInt 1) = sI ((f 30).toInt + 1) by unfold addI; rw [sI_add, sI_o]]; exact sI_t (by omega)
    rw [this]; omega
  by_cases q4 : v < 1000
  · rw [do_h f (by omega)]; unfold hsS; rw [uR_n (by decide)]; omega
  · rw [do_p f (by omega)]
    have w := wpF_s f ((v - 1000) / 100) (v % 100)
    unfold psS
    rw [uR_n (by omega)]; omega
theorem dn_lo {f : Nat → Int32} {j : Nat} (h : j ≠ 32) : dnS f j = f j := by
  unfold dnS
  split
  · exact uR_n h
  · unfold drS; rw [uR_n h]; exact uR_n h
theorem tl_gf {f : Nat → Int32} {T : Nat → Int} (h0 : 0 ≤ (f 30).toInt) (h1 : (f 30).toInt ≤ 1000000) : ∀ n : Nat, n ≤ 1000 → 0 ≤ ((tlF f T n).1 30).toInt ∧ ((tlF f T n).1 30).toInt ≤ (f 30).toInt + n
  | 0, _ => ⟨h0, by show (f 30).toInt ≤ (f 30).toInt + ((0 : Nat) : Int); omega⟩
  | n + 1, h => by
    have ih := tl_gf (T := T) h0 h1 n (by omega)
    rw [tlF]
    repeat' split
    · rename_i q0 q1
      have := gf_do ih.1 (by omega) q1
      show 0 ≤ (doS (tlF f T n).1 (T n) 30).toInt ∧ (doS (tlF f T n).1 (T n) 30).toInt ≤ (f 30).toInt + ((n + 1 : Nat) : Int)
      omega
    · show 0 ≤ ((tlF f T n).1 30).toInt ∧ ((tlF f T n).1 30).toInt ≤ (f 30).toInt + ((n + 1 : Nat) : Int)
      omega
    · omega
theorem se_gf {f : Nat → Int32} (h0 : 0 ≤ (f 30).toInt) (h1 : (f 30).toInt ≤ 1000000) : ∀ n : Nat, n ≤ 1000 → 0 ≤ ((seF f n).1 30).toInt ∧ ((seF f n).1 30).toInt ≤ (f 30).toInt + n
  | 0, _ => ⟨h0, by show (f 30).toInt ≤ (f 30).toInt + ((0 : Nat) : Int); omega⟩
  | n + 1, h => by
    have ih := se_gf h0 h1 n (by omega)
    have d : dnS (seF f n).1 30 = (seF f n).1 30 := dn_lo (by decide)
    rw [seF]
    split
    · rename_i q1
      have := gf_do (f := dnS (seF f n).1) (by rw [d]; exact ih.1) (by rw [d]; omega) q1
      rw [d] at this
      show 0 ≤ (doS (dnS (seF f n).1) (dnV (seF f n).1) 30).toInt ∧ (doS (dnS (seF f n).1) (dnV (seF f n).1) 30).toInt ≤ (f 30).toInt + ((n + 1 : Nat) : Int)
      omega
    · show 0 ≤ (dnS (seF f n).1 30).toInt ∧ (dnS (seF f n).1 30).toInt ≤ (f 30).toInt + ((n + 1 : Nat) : Int)
      rw [d]; omega
theorem prr_tl {f : Nat → Int32} {T : Nat → Int} (h : PRR f) : ∀ n : Nat, PRR (tlF f T n).1
  | 0 => h
  | n + 1 => by
    have ih := prr_tl (T := T) h n
    rw [tlF]
    repeat' split
    · rename_i q0 q1
      exact prr_do ih q1
    · exact ih
    · exact ih
theorem prr_dn {f : Nat → Int32} (h : PRR f) : PRR (dnS f) := by
  unfold dnS; split
  · exact prr_dr h
  · exact prr_dr (prr_dr h)
theorem prr_se {f : Nat → Int32} (h : PRR f) : ∀ n : Nat, PRR (seF f n).1
  | 0 => h
  | n + 1 => by
    have ih := prr_se h n
    rw [seF]
    split
    · rename_i q1
      exact prr_do (prr_dn ih) q1
    · exact prr_dn ih
theorem prr_ds {f : Nat → Int32} (h : PRR f) : ∀ n : Nat, PRR (dsS f n).1
  | 0 => h
  | n + 1 => prr_dy (prr_ds h n)

/-! the class's walk of the deeds -/
theorem rx_c {M N : mm_M} {p v c J : Nat} {x : Int} (cp : s_c p = 6) (cv : s_c v = 8) (hf : FX [v] M N) (e : N.1 v = uR (M.1 v) c x) (h : rwX (wI M v c (sI x)) p v = uR (rwX M p v) J x) : rwX N p v = uR (rwX M p v) J x := by
  rw [← h]
  have st := stk_c cv
  have q := pln_c cp
  have ne : ∀ i : Nat, i ≠ v → N.1 i = (wI M v c (sI x)).1 i := fun i hi => (hf.cell (by simpa using hi)).trans (wI_cell (M := M) rfl hi).symm
  have z : N.1 v = (wI M v c (sI x)).1 v := e.trans (uR_w (M := M) rfl).symm
  refine rx_f ⟨ne p ?_, ne _ ?_, ne _ ?_, ne _ ?_, ne _ ?_⟩ ⟨z, ne _ ?_, ne _ ?_⟩
  · exact s_ne cp cv (by decide)
  · exact s_ne q.1 cv (by decide)
  · exact s_ne q.2.1 cv (by decide)
  · exact s_ne q.2.2.1 cv (by decide)
  · exact s_ne q.2.2.2 cv (by decide)
  · exact s_ne st.1 cv (by decide)
  · exact s_ne st.2 cv (by decide)
theorem rx_d {M N : mm_M} {p v : Nat} (cp : s_c p = 6) (cv : s_c v = 8) (hf : FX [v] M N) (e : b01 (N.1 v = uR (M.1 v) 8 (dxF (M.1 v 8).toInt)) = 1) : rwX N p v = drS (rwX M p v) := rx_c cp cv hf (b01_e e) (rx_32 cp cv rfl)
theorem dx_w {M N : mm_M} {v : Nat} {x r : Int} (e : N = wI M v 8 (sI (addI r 12345))) (h : r = mlN x) (hx : x = (M.1 v 8).toInt) : b01 (N.1 v = uR (M.1 v) 8 (dxF (M.1 v 8).toInt)) = 1 ∧ ushrI (N.1 v 8).toInt 16 = dwF (M.1 v 8).toInt := by
  subst hx
  subst h
  have : (N.1 v 8).toInt = addI (mlN (M.1 v 8).toInt) 12345 := by rw [wI_at e]; exact sI_t (sI_r _)
  exact ⟨b01_i (uR_w e), by rw [this]; rfl⟩
theorem ps_v (M : mm_M) (p v w : Nat) {n : Nat} (hn : n ≤ 6) : psF (rwX M p v) n = psF (rwX M p w) n := psF_c n hn (fun k h0 h1 => by unfold rwX; rw [cl_20 M p v _ (by omega), cl_20 M p w _ (by omega)])
theorem co_v (M : mm_M) (p v w : Nat) : ∀ (n : Nat) (b l : Int), 0 ≤ b → b + n ≤ 6 → coR (rwX M p v) n b l = coR (rwX M p w) n b l
  | 0, _, _, _, _ => rfl
  | n + 1, b, l, h0, h1 => by
    have e : rwX M p v (20 + b).toNat = rwX M p w (20 + b).toNat := by unfold rwX; rw [cl_20 M p v _ (by omega), cl_20 M p w _ (by omega)]
    rw [coR, coR, e, co_v M p v w n (b + 1) _ (by omega) (by omega)]
theorem as_x (f : Nat → Int32) (n g : Int) (h : 0 ≤ (f 26).toInt ∧ (f 26).toInt < 8) : uR (uR (uR f (33 + (f 26).toInt).toNat n) (41 + (f 26).toInt).toNat g) 26 ((f 26).toInt + 1) = asS f n g := by
  funext j
  unfold asS uR
  by_cases a : j = 26
  · rw [if_pos a, if_neg (by omega), if_neg (by omega), if_pos a]
  · rw [if_neg a]
    by_cases b : j = (41 + (f 26).toInt).toNat
    · rw [if_pos b, if_pos b]
    · rw [if_neg b, if_neg b]
      by_cases c : j = (33 + (f 26).toInt).toNat
      · rw [if_pos c, if_pos c]
      · rw [if_neg c, if_neg c, if_neg a]
/-- a day: who comes, the row by then -/
noncomputable def pdA (f : Nat → Int32) : Int := if ogF (dgS f) = 0 then -1 else dcF f
noncomputable def pdS (f : Nat → Int32) : Nat → Int32 := if ogF (dgS f) = 0 then dgS f else deS f
theorem pd_0 {f g : Nat → Int32} (hg : g = dgS f) (h : ogF (dgS f) = 0) : pdA f = -1 ∧ b01 (g = pdS f) = 1 := by unfold pdA pdS; rw [if_pos h, if_pos h]; exact ⟨rfl, b01_i hg⟩
theorem pd_1 {f g : Nat → Int32} {r : Int} (hg : g = deS f) (h : ¬ ogF (dgS f) = 0) (hr : r = dcF f) : r = pdA f ∧ b01 (g = pdS f) = 1 := by unfold pdA pdS; rw [if_neg h, if_neg h]; exact ⟨hr, b01_i hg⟩
theorem pd_v {f N : Nat → Int32} {a : Int} (hb : ∀ b, -1 ≤ bnF (pdS f) b) (ha : a = aI (wvF (pdS f) (pdA f)) (bnF (pdS f) (pdA f))) (e : b01 (N = dvS (wvF (pdS f) (pdA f)) (pdS f) (vsS (pdS f) (pdA f))) = 1) : ((0 ≤ a ∧ dyA f = 1) ∨ (a < 0 ∧ dyA f = 0)) ∧ b01 (N = dyS f) = 1 := by
  have e := b01_e e
  by_cases h : ogF (dgS f) = 0
  · have d := dy_0 f h
    have q1 : pdA f = -1 := by unfold pdA; rw [if_pos h]
    have q2 : pdS f = dgS f := by unfold pdS; rw [if_pos h]
    have w : wvF (pdS f) (pdA f) = 1 := by rw [q1]; unfold wvF; rw [if_pos (Or.inl (by decide))]
    rw [w] at ha e
    unfold aI at ha
    unfold dvS at e
    rw [if_neg (by decide)] at ha e
    exact ⟨Or.inr ⟨by omega, d.1⟩, b01_i (by rw [e, q2]; exact d.2.symm)⟩
  · have q1 : pdA f = dcF f := by unfold pdA; rw [if_neg h]
    have q2 : pdS f = deS f := by unfold pdS; rw [if_neg h]
    rw [q1, q2] at ha e
    have hb := hb (dcF f)
    rw [q2] at hb
    have s := wvF_s (deS f) (dcF f)
    by_cases w : wvF (deS f) (dcF f) = 0
    · have d := dy_1 f h w
      unfold aI at ha
      unfold dvS at e
      rw [if_pos w] at ha e
      exact ⟨Or.inl ⟨by omega, d.1⟩, b01_i (by rw [e]; exact d.2.symm)⟩
    · have d := dy_2 f h w
      unfold aI at ha
      unfold dvS at e
      rw [if_neg w] at ha e
      exact ⟨Or.inr ⟨by omega, d.1⟩, b01_i (by rw [e]; exact d.2.symm)⟩
theorem bo_m1 (f : Nat → Int32) (b s : Int) : ∀ n : Nat, -1 ≤ (boS f b s n).1
  | 0 => Int.le_refl _
  | n + 1 => by
    have ih := bo_m1 f b s n
    rw [boS]
    unfold boT
    repeat' split
    all_goals first | exact ih | (show (-1 : Int) ≤ (n : Int); omega)
theorem bn_m1 (f : Nat → Int32) (b : Int) : -1 ≤ bnF f b := bo_m1 f b _ _
/-- what a deed answers -/
theorem co_y {f N G : Nat → Int32} {v W a A : Int} (hw : wnF f v = W) (hG : doS f v = G) (ha : a = aI W A) (e : b01 (N = dvS W f G) = 1) (h0 : W = 0 → 0 ≤ A) (h1 : 0 ≤ W) : ((wnF f v = 0 ∧ 0 ≤ a) ∨ (¬ wnF f v = 0 ∧ a = -10 - wnF f v)) ∧ b01 (N = dvS (wnF f v) f (doS f v)) = 1 := by
  rw [hw, hG]
  refine ⟨?_, e⟩
  have := aI_s W A
  rcases this with q | q
  · exact Or.inl ⟨q.1, by have := h0 q.1; omega⟩
  · exact Or.inr ⟨q.1, by omega⟩
theorem copy_k {M N : mm_M} {d s : Nat} {p : Nat} (h0 : (N.1 d 0).toInt = (M.1 s 0).toInt) (h3 : (N.1 d 3).toInt = (M.1 s 3).toInt) (h4 : (N.1 d 4).toInt = (M.1 s 4).toInt) (h5 : (N.1 d 5).toInt = (M.1 s 5).toInt) (h6 : (N.1 d 6).toInt = (M.1 s 6).toInt) (h7 : (N.1 d 7).toInt = (M.1 s 7).toInt) (h8 : (N.1 d 8).toInt = (M.1 s 8).toInt) (hc : b01 (CPA N M (s_p0 d 1) (s_p0 s 1) (s_p0 d 2) (s_p0 s 2) 8) = 1) : b01 (skX N d = skX M s) = 1 := b01_i (by
  have t : ∀ {a b : Int32}, a.toInt = b.toInt → a = b := fun h => Int32.toInt_inj.mp h
  have hc := b01_e hc
  funext j
  unfold skX
  by_cases q : j < 23
  · rw [if_pos q, if_pos q]
    by_cases q1 : j < 7
    · rcases (show j = 0 ∨ j = 1 ∨ j = 2 ∨ j = 3 ∨ j = 4 ∨ j = 5 ∨ j = 6 by omega) with rfl | rfl | rfl | rfl | rfl | rfl | rfl
      · exact t h0
      · exact t h3
      · exact t h4
      · exact t h5
      · exact t h6
      · exact t h7
      · exact t h8
    · unfold rwX
      by_cases q2 : j < 15
      · rw [cl_33 N d d _ (by omega), cl_33 M s s _ (by omega)]
        exact (hc (26 + j - 33) (by omega)).1
      · rw [cl_41 N d d _ (by omega), cl_41 M s s _ (by omega)]
        exact (hc (26 + j - 41) (by omega)).2
  · rw [if_neg q, if_neg q])
theorem cl_f (M : mm_M) (p v : Nat) (h : Int32) : clX M p v h 26 = M.1 v 0 ∧ clX M p v h 27 = M.1 v 3 ∧ clX M p v h 28 = h ∧ clX M p v h 29 = M.1 v 5 ∧ clX M p v h 30 = M.1 v 6 ∧ clX M p v h 31 = M.1 v 7 ∧ clX M p v h 32 = M.1 v 8 := ⟨rfl, rfl, rfl, rfl, rfl, rfl, rfl⟩
theorem cl_g (M : mm_M) (p v : Nat) (h : Int32) : clX M p v h 0 = M.1 p 1 ∧ clX M p v h 1 = M.1 p 0 ∧ clX M p v h 2 = (if M.1 p 7 = M.1 p 8 then 0 else 1) ∧ clX M p v h 3 = (if M.1 p 9 = M.1 p 10 then 0 else 1) ∧ clX M p v h 4 = M.1 p 7 ∧ clX M p v h 5 = M.1 p 9 ∧ clX M p v h 6 = M.1 p 8 - M.1 p 7 ∧ clX M p v h 7 = M.1 p 10 - M.1 p 9 := ⟨rfl, rfl, rfl, rfl, rfl, rfl, rfl, rfl⟩
theorem cl_z (M : mm_M) (p v : Nat) (h : Int32) {j : Nat} (hj : 49 ≤ j ∧ j < 281) : clX M p v h j = 0 := by
  unfold clX
  rw [if_neg (show ¬ j = 0 by omega), if_neg (show ¬ j = 1 by omega), if_neg (show ¬ j = 2 by omega), if_neg (show ¬ j = 3 by omega), if_neg (show ¬ j = 4 by omega), if_neg (show ¬ j = 5 by omega), if_neg (show ¬ j = 6 by omega), if_neg (show ¬ j = 7 by omega), if_neg (show ¬ j < 14 by omega), if_neg (show ¬ j < 20 by omega), if_neg (show ¬ j < 26 by omega), if_neg (show ¬ j = 26 by omega), if_neg (show ¬ j = 27 by omega), if_neg (show ¬ j = 28 by omega), if_neg (show ¬ j = 29 by omega), if_neg (show ¬ j = 30 by omega), if_neg (show ¬ j = 31 by omega), if_neg (show ¬ j = 32 by omega), if_neg (show ¬ j < 41 by omega), if_neg (show ¬ j < 49 by omega), if_pos (show j < 281 by omega)]
/-- the stock's part of a row -/
theorem sk_r (M : mm_M) (p v : Nat) {j : Nat} (h : 26 ≤ j ∧ j < 49) : rwX M p v j = skX M v (j - 26) := by
  unfold skX
  rw [if_pos (by omega), show 26 + (j - 26) = j by omega]
  unfold rwX
  have a := cl_f M p v (M.1 v 4)
  have b := cl_f M v v (M.1 v 4)
  by_cases q1 : j < 33
  · rcases (show j = 26 ∨ j = 27 ∨ j = 28 ∨ j = 29 ∨ j = 30 ∨ j = 31 ∨ j = 32 by omega) with rfl | rfl | rfl | rfl | rfl | rfl | rfl
    · rw [a.1, b.1]
    · rw [a.2.1, b.2.1]
    · rw [a.2.2.1, b.2.2.1]
    · rw [a.2.2.2.1, b.2.2.2.1]
    · rw [a.2.2.2.2.1, b.2.2.2.2.1]
    · rw [a.2.2.2.2.2.1, b.2.2.2.2.2.1]
    · rw [a.2.2.2.2.2.2, b.2.2.2.2.2.2]
  · by_cases q2 : j < 41
    · rw [cl_33 M p v _ (by omega), cl_33 M v v _ (by omega)]
    · rw [cl_41 M p v _ (by omega), cl_41 M v v _ (by omega)]
theorem cl_w (M : mm_M) (p v w : Nat) (h h' : Int32) {j : Nat} (hj : j < 26 ∨ 49 ≤ j) : clX M p v h j = clX M p w h' j := by
  have a := cl_g M p v h
  have b := cl_g M p w h'
  by_cases q1 : j < 8
  · rcases (show j = 0 ∨ j = 1 ∨ j = 2 ∨ j = 3 ∨ j = 4 ∨ j = 5 ∨ j = 6 ∨ j = 7 by omega) with rfl | rfl | rfl | rfl | rfl | rfl | rfl | rfl
    · rw [a.1, b.1]
    · rw [a.2.1, b.2.1]
    · rw [a.2.2.1, b.2.2.1]
    · rw [a.2.2.2.1, b.2.2.2.1]
    · rw [a.2.2.2.2.1, b.2.2.2.2.1]
    · rw [a.2.2.2.2.2.1, b.2.2.2.2.2.1]
    · rw [a.2.2.2.2.2.2.1, b.2.2.2.2.2.2.1]
    · rw [a.2.2.2.2.2.2.2, b.2.2.2.2.2.2.2]
  by_cases q2 : j < 14
  · rw [cl_8 M p v _ (by omega), cl_8 M p w _ (by omega)]
  by_cases q3 : j < 20
  · rw [cl_14 M p v _ (by omega), cl_14 M p w _ (by omega)]
  by_cases q4 : j < 26
  · rw [cl_20 M p v _ (by omega), cl_20 M p w _ (by omega)]
  by_cases q5 : j < 281
  · rw [cl_z M p v _ (by omega), cl_z M p w _ (by omega)]
  · rw [cl_281 M p v _ (by omega), cl_281 M p w _ (by omega)]
theorem cl_p {M N : mm_M} {p v : Nat} {h : Int32} {j : Nat} (hp : PLE M N p) (hj : j < 26 ∨ 49 ≤ j) : clX N p v h j = clX M p v h j := by
  by_cases q : 49 ≤ j
  · exact cl_hi _ _ hp q
  have a := cl_g M p v h
  have b := cl_g N p v h
  rw [hp.1] at b
  by_cases q1 : j < 8
  · rcases (show j = 0 ∨ j = 1 ∨ j = 2 ∨ j = 3 ∨ j = 4 ∨ j = 5 ∨ j = 6 ∨ j = 7 by omega) with rfl | rfl | rfl | rfl | rfl | rfl | rfl | rfl
    · rw [a.1, b.1]
    · rw [a.2.1, b.2.1]
    · rw [a.2.2.1, b.2.2.1]
    · rw [a.2.2.2.1, b.2.2.2.1]
    · rw [a.2.2.2.2.1, b.2.2.2.2.1]
    · rw [a.2.2.2.2.2.1, b.2.2.2.2.2.1]
    · rw [a.2.2.2.2.2.2.1, b.2.2.2.2.2.2.1]
    · rw [a.2.2.2.2.2.2.2, b.2.2.2.2.2.2.2]
  by_cases q2 : j < 14
  · rw [cl_8 M p v _ (by omega), cl_8 N p v _ (by omega), hp.2.1]
  by_cases q3 : j < 20
  · rw [cl_14 M p v _ (by omega), cl_14 N p v _ (by omega), hp.2.2.1]
  · rw [cl_20 M p v _ (by omega), cl_20 N p v _ (by omega), hp.2.2.2.1]
/-- a row by its stock's part and its plan's -/
theorem rx_eq {M N : mm_M} {p v w : Nat} (hp : PLE M N p) (hs : skX N v = skX M w) : rwX N p v = rwX M p w := by
  funext j
  by_cases q : 26 ≤ j ∧ j < 49
  · rw [sk_r N p v q, sk_r M p w q, hs]
  · unfold rwX
    rw [cl_p hp (by omega)]
    exact cl_w M p v w _ _ (by omega)

theorem vs_x {M M1 N : mm_M} {f : Nat → Int32} {p v : Nat} {b k x : Int} (cp : s_c p = 6) (cv : s_c v = 8) (hf : rwX M p v = f) (e2 : M1 = wI M v 3 (sI (orI (f 27).toInt (pw2 k)))) (e1 : N = wI M1 v 5 (sI (addI (f 29).toInt x))) (hk : k = bnF f b) (hx : x = (f (33 + k).toNat).toInt) : rwX N p v = vsS f b := by
  rw [rx_29 cp cv e1, rx_27 cp cv e2, hf, hx, hk]; rfl
theorem prr_pd {f : Nat → Int32} (h : PRR f) : PRR (pdS f) := by
  unfold pdS; split
  · exact prr_dg h
  · exact prr_dr (prr_dg h)
theorem wn_m (f : Nat → Int32) : wnF f (-1) = 0 := by unfold wnF; rw [if_pos rfl]
theorem dv_0 (f g : Nat → Int32) : dvS 0 f g = g := by unfold dvS; rw [if_pos rfl]
theorem co_n {f N : Nat → Int32} {v a : Int} (hw : wnF f v = 1) (ha : a = -11) (e : N = f) : (¬ wnF f v = 0 ∧ a = -10 - wnF f v) ∧ b01 (N = dvS (wnF f v) f (doS f v)) = 1 := by
  rw [hw]
  exact ⟨⟨by decide, by omega⟩, b01_i (by unfold dvS; rw [if_neg (by decide)]; exact e)⟩
theorem co_d {f N : Nat → Int32} {v a : Int} (hv : v = -1) (h : ((0 ≤ a ∧ dyA f = 1) ∨ (a < 0 ∧ dyA f = 0)) ∧ b01 (N = dyS f) = 1) : wnF f v = 0 ∧ b01 (N = dvS (wnF f v) f (doS f v)) = 1 := by
  subst hv
  rw [wn_m, do_m f rfl, dv_0]
  exact ⟨rfl, h.2⟩
theorem wpF_b (f : Nat → Int32) (k n : Int) : 0 ≤ wpF f k n := by have := wpF_s f k n; omega
theorem wkF_b (f : Nat → Int32) (k : Int) : 0 ≤ wkF f k := by have := wkF_s f k; omega
theorem wvF_b (f : Nat → Int32) (b : Int) : 0 ≤ wvF f b := by have := wvF_s f b; omega
theorem gf_p (f : Nat → Int32) (h : 0 ≤ (f 30).toInt ∧ (f 30).toInt ≤ 2000000000) : 0 ≤ addI (f 30).toInt 1 := by
  have : addI (f 30).toInt 1 = (f 30).toInt + 1 := by unfold addI; rw [sI_add]; exact sI_t (by omega)
  omega
theorem bit_0 (a k : Int) : 0 ≤ andI (shrI a k) 1 := (sb_and (sI (shrI a k)) (sI 1) (by rw [sI_t (by omega)]; decide)).1
