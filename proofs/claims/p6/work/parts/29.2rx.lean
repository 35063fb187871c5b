/-! THE CLASS'S CONTENTS while it reads -/
theorem wx_at {M N : mm_M} {c k : Nat} {v : Int32} (e : N = wI M c k v) : N.1 c k = v := by rw [e]; exact u2_s _ _ _ _
theorem wx_ne {M N : mm_M} {c k j : Nat} {v : Int32} (e : N = wI M c k v) (h : j ≠ k) : N.1 c j = M.1 c j := by rw [e]; exact u2_b _ _ h
theorem wx_r {M N : mm_M} {c k : Nat} {v : Int32} (e : N = wI M c k v) : N.2.2 = M.2.2 := by rw [e]
theorem r_plan : ∀ p, p < mm_N → s_c p = 6 → s_c (s_p0 p 2) = 21 ∧ s_c (s_p0 p 3) = 22 ∧ s_c (s_p0 p 4) = 23 ∧ s_c (s_p0 p 5) = 24 := by decide +kernel
theorem r_stk : ∀ v, v < mm_N → s_c v = 8 → s_c (s_p0 v 1) = 25 ∧ s_c (s_p0 v 2) = 26 := by decide +kernel
def csX (M : mm_M) : Int := (M.1 (M.2.2 78 3) 6).toInt
theorem cs_r {M : mm_M} {v : Nat} (h : v = M.2.2 78 3) : (M.1 v 6).toInt = csX M := by rw [h]; rfl
theorem cs_f {pr : Nat → Nat → Bool} {Kz M M' : mm_M} (h : INV pr Kz M) (e : FR [78] M M') : csX M' = csX M := by
  have h3 := h.rm (i := 78) (c := 7) (k := 3) (t := 6) rfl rfl (by decide)
  unfold csX
  rw [e.2.1, e.1 (M.2.2 78 3) 6 (by intro z; simp at z; rw [z] at h3; exact absurd h3 (by decide))]
theorem cs_w {pr : Nat → Nat → Bool} {Kz M M' : mm_M} {i k c : Nat} {v : Int32} (h : INV pr Kz M) (hc : s_c i = c) (e : M' = wI M i k v) (hk : ¬ (c = 6 ∧ k = 6)) : csX M' = csX M := by
  have h3 := h.rm (i := 78) (c := 7) (k := 3) (t := 6) rfl rfl (by decide)
  have w : ∀ j n, ¬ (i = j ∧ k = n) → M'.1 j n = M.1 j n := fun j n q => by
    rw [e]
    by_cases q2 : j = i
    · exact u2_b _ _ (fun z => q ⟨q2.symm, z.symm⟩)
    · exact u2_a _ _ q2
  unfold csX
  rw [wx_r e, w _ 6 (fun z => hk ⟨by rw [← hc, z.1]; exact h3, z.2⟩)]
theorem cs_6 {M M' : mm_M} {i : Nat} {a : Int} (hi : i = M.2.2 78 3) (e : M' = wI M i 6 (sI a)) (ha : -2147483648 ≤ a ∧ a ≤ 2147483647) : csX M' = a := by
  unfold csX
  rw [wx_r e, ← hi, s_wr e ha]
theorem cs_J {M M' : mm_M} {i k : Nat} {v : Int64} (e : M' = wJ M i k v) : csX M' = csX M := by rw [e]; rfl
def AGF (P V Pr Gr Pu Mi Od Co : Nat → Int32) (q : Int × Int × Int × Int) (T : Nat → Int) : Prop :=
  ((P 0).toInt = T 1 ∧ (P 1).toInt = T 0 ∧ (P 6).toInt = T 280 ∧ (V 0).toInt = T 26 ∧ (V 3).toInt = T 27 ∧ (V 4).toInt = T 28 ∧ (V 5).toInt = T 29 ∧ (V 6).toInt = T 30 ∧ (V 8).toInt = T 32) ∧ ((P 7).toInt = q.1 ∧ (P 8).toInt = q.2.1 ∧ (P 9).toInt = q.2.2.1 ∧ (P 10).toInt = q.2.2.2) ∧ (∀ k : Nat, (k : Int) < T 26 → k < 8 → (Pr k).toInt = T (33 + k) ∧ (Gr k).toInt = T (41 + k)) ∧ (∀ b : Nat, (b : Int) < T 1 → b < 6 → (Pu b).toInt = T (8 + b) ∧ (Mi b).toInt = T (14 + b) ∧ (Od b).toInt = T (20 + b)) ∧ ∀ i : Nat, (i : Int) < T 280 → cmF (Co i).toInt = T (281 + i)
def AGW (T : Nat → Int) : Prop := 0 ≤ T 280 ∧ 0 ≤ T 26 ∧ 0 ≤ T 1
def AGP (M : mm_M) (p v : Nat) (q : Int × Int × Int × Int) (T : Nat → Int) : Prop := AGF (M.1 p) (M.1 v) (M.1 (s_p0 v 1)) (M.1 (s_p0 v 2)) (M.1 (s_p0 p 2)) (M.1 (s_p0 p 3)) (M.1 (s_p0 p 4)) (M.1 (s_p0 p 5)) q T ∧ AGW T ∧ s_c p = 6 ∧ s_c v = 8
def AGC (M : mm_M) (q : Int × Int × Int × Int) (T : Nat → Int) : Prop := AGP M (M.2.2 78 3) (M.2.2 78 4) q T
theorem ag_cd {p v : Nat} (cp : s_c p = 6) (cv : s_c v = 8) : (s_c (s_p0 p 2) = 21 ∧ s_c (s_p0 p 3) = 22 ∧ s_c (s_p0 p 4) = 23 ∧ s_c (s_p0 p 5) = 24) ∧ s_c (s_p0 v 1) = 25 ∧ s_c (s_p0 v 2) = 26 := ⟨r_plan p (s_c_lt cp (by decide)) cp, r_stk v (s_c_lt cv (by decide)) cv⟩
theorem agp_c {M N : mm_M} {p v : Nat} {q : Int × Int × Int × Int} {T : Nat → Int} (h : AGP M p v q T) (hc : ∀ i, s_c i = 6 ∨ s_c i = 8 ∨ (21 ≤ s_c i ∧ s_c i ≤ 26) → N.1 i = M.1 i) : AGP N p v q T := by
  obtain ⟨a, b, cp, cv⟩ := h
  obtain ⟨⟨c1, c2, c3, c4⟩, c5, c6⟩ := ag_cd cp cv
  refine ⟨?_, b, cp, cv⟩
  rw [hc p (by omega), hc v (by omega), hc (s_p0 v 1) (by omega), hc (s_p0 v 2) (by omega), hc (s_p0 p 2) (by omega), hc (s_p0 p 3) (by omega), hc (s_p0 p 4) (by omega), hc (s_p0 p 5) (by omega)]
  exact a
theorem agc_c {M N : mm_M} (h2 : N.2.2 = M.2.2) (hc : ∀ i, i ≠ 78 → N.1 i = M.1 i) (q : Int × Int × Int × Int) (T : Nat → Int) (h : AGC M q T) : AGC N q T := by
  unfold AGC
  rw [h2]
  exact agp_c h (fun i hi => hc i (fun z => by rw [z] at hi; exact absurd hi (by decide)))
theorem agc_78 {M N : mm_M} {k : Nat} {v : Int32} (e : N = wI M 78 k v) : ∀ q T, AGC M q T → AGC N q T := agc_c (wx_r e) (fun i hi => wc_x e hi)
theorem agc_F {M N : mm_M} (e : FR [78] M N) : ∀ q T, AGC M q T → AGC N q T := agc_c e.2.1 (fun i hi => funext fun k => e.1 i k (by simpa using hi))
/-- a code is written -/
theorem agc_em {M M1 N : mm_M} {p : Nat} {c y x : Int} (hp : p = M.2.2 78 3) (e2 : M1 = wI M (s_p0 p 5) c.toNat (sI x)) (e1 : N = wI M1 p 6 (sI y)) (hc : c = (M.1 p 6).toInt) (hy : y = c + 1 ∧ c < 900) (hx : -2147483648 ≤ x ∧ x ≤ 2147483647) (q : Int × Int × Int × Int) (T : Nat → Int) (h : AGC M q T) : AGC N q (emT (cmF x) T) := by
  subst hp
  unfold AGC at *
  rw [wx_r e1, wx_r e2]
  obtain ⟨⟨a1, a2, a3, a4, a5⟩, b, cp, cv⟩ := h
  obtain ⟨⟨c1, c2, c3, c4⟩, c5, c6⟩ := ag_cd cp cv
  have cs : c = T 280 := by rw [hc]; exact a1.2.2.1
  have b0 := b.1
  have k1 : ∀ i, s_c i ≠ 6 → s_c i ≠ 24 → N.1 i = M.1 i := fun i h6 h24 => (wc_x e1 (fun z => h6 (by rw [z]; exact cp))).trans (wc_x e2 (fun z => h24 (by rw [z]; exact c4)))
  have kp : ∀ j, j ≠ 6 → N.1 (M.2.2 78 3) j = M.1 (M.2.2 78 3) j := fun j hj => (wx_ne e1 hj).trans (by rw [wc_x e2 (s_ne cp c4 (by decide))])
  have kc : N.1 (s_p0 (M.2.2 78 3) 5) = M1.1 (s_p0 (M.2.2 78 3) 5) := wc_x e1 (s_ne c4 cp (by decide))
  have t : ∀ j : Nat, j < 280 → emT (cmF x) T j = T j := fun j hj => by unfold emT; rw [uT_o (by omega), uT_o (by omega)]
  have t6 : emT (cmF x) T 280 = T 280 + 1 := by unfold emT; exact uT_s
  refine ⟨⟨⟨?_, ?_, ?_, ?_, ?_, ?_, ?_, ?_, ?_⟩, ⟨?_, ?_, ?_, ?_⟩, fun k h1 h2 => ?_, fun k h1 h2 => ?_, fun i hi => ?_⟩, ⟨?_, ?_, ?_⟩, cp, cv⟩
  · rw [kp 0 (by decide), t 1 (by decide)]; exact a1.1
  · rw [kp 1 (by decide), t 0 (by decide)]; exact a1.2.1
  · rw [wx_at e1, sI_t (by omega), t6]; omega
  · rw [k1 _ (by rw [cv]; decide) (by rw [cv]; decide), t 26 (by decide)]; exact a1.2.2.2.1
  · rw [k1 _ (by rw [cv]; decide) (by rw [cv]; decide), t 27 (by decide)]; exact a1.2.2.2.2.1
  · rw [k1 _ (by rw [cv]; decide) (by rw [cv]; decide), t 28 (by decide)]; exact a1.2.2.2.2.2.1
  · rw [k1 _ (by rw [cv]; decide) (by rw [cv]; decide), t 29 (by decide)]; exact a1.2.2.2.2.2.2.1
  · rw [k1 _ (by rw [cv]; decide) (by rw [cv]; decide), t 30 (by decide)]; exact a1.2.2.2.2.2.2.2.1
  · rw [k1 _ (by rw [cv]; decide) (by rw [cv]; decide), t 32 (by decide)]; exact a1.2.2.2.2.2.2.2.2
  · rw [kp 7 (by decide)]; exact a2.1
  · rw [kp 8 (by decide)]; exact a2.2.1
  · rw [kp 9 (by decide)]; exact a2.2.2.1
  · rw [kp 10 (by decide)]; exact a2.2.2.2
  · rw [t 26 (by decide)] at h1
    rw [k1 _ (by rw [c5]; decide) (by rw [c5]; decide), k1 _ (by rw [c6]; decide) (by rw [c6]; decide), t _ (by omega), t _ (by omega)]
    exact a3 k h1 h2
  · rw [t 1 (by decide)] at h1
    rw [k1 _ (by rw [c1]; decide) (by rw [c1]; decide), k1 _ (by rw [c2]; decide) (by rw [c2]; decide), k1 _ (by rw [c3]; decide) (by rw [c3]; decide), t _ (by omega), t _ (by omega), t _ (by omega)]
    exact a4 k h1 h2
  · rw [t6] at hi
    rw [kc]
    unfold emT
    rw [uT_o (by omega)]
    by_cases z : i = c.toNat
    · rw [z, wx_at e2, sI_t hx, show 281 + c.toNat = (281 + T 280).toNat by omega, uT_s]
    · rw [wx_ne e2 z, uT_o (by omega)]; exact a5 i (by omega)
  · rw [t6]; omega
  · rw [t 26 (by decide)]; exact b.2.1
  · rw [t 1 (by decide)]; exact b.2.2
theorem agc_cl {M M1 N : mm_M} {p : Nat} {c y x : Int} (a : Int) (hp : p = M.2.2 78 3) (e2 : M1 = wI M (s_p0 p 5) c.toNat (sI x)) (e1 : N = wI M1 p 6 (sI y)) (hc : c = (M.1 p 6).toInt) (hy : y = c + 1 ∧ c < 900) (hx : -2147483648 ≤ x ∧ x ≤ 2147483647) : b01 (CL AGC a M N [cmF x]) = 1 := b01_i (Or.inr (fun q T h => agc_em hp e2 e1 hc hy hx q T h))
/-! writes of numbers -/
/-- one place of the stock or the plan, or of their arrays, is another -/
theorem agp_w {M N : mm_M} {p v c k : Nat} {x : Int32} {q : Int × Int × Int × Int} {T T' : Nat → Int} (h : AGP M p v q T) (e : N = wI M c k x) (hw : AGW T') (hF : ∀ P V Pr Gr Pu Mi Od Co : Nat → Int32, (∀ j, (p = c ∧ j = k) ∨ P j = M.1 p j) → (p = c → P k = x) → (∀ j, (v = c ∧ j = k) ∨ V j = M.1 v j) → (v = c → V k = x) → (∀ j, (s_p0 v 1 = c ∧ j = k) ∨ Pr j = M.1 (s_p0 v 1) j) → (s_p0 v 1 = c → Pr k = x) → (∀ j, (s_p0 v 2 = c ∧ j = k) ∨ Gr j = M.1 (s_p0 v 2) j) → (s_p0 v 2 = c → Gr k = x) → (∀ j, (s_p0 p 2 = c ∧ j = k) ∨ Pu j = M.1 (s_p0 p 2) j) → (s_p0 p 2 = c → Pu k = x) → (∀ j, (s_p0 p 3 = c ∧ j = k) ∨ Mi j = M.1 (s_p0 p 3) j) → (s_p0 p 3 = c → Mi k = x) → (∀ j, (s_p0 p 4 = c ∧ j = k) ∨ Od j = M.1 (s_p0 p 4) j) → (s_p0 p 4 = c → Od k = x) → (∀ j, (s_p0 p 5 = c ∧ j = k) ∨ Co j = M.1 (s_p0 p 5) j) → (s_p0 p 5 = c → Co k = x) → AGF P V Pr Gr Pu Mi Od Co q T') : AGP N p v q T' := by
  obtain ⟨_, _, cp, cv⟩ := h
  have w : ∀ a j, (a = c ∧ j = k) ∨ N.1 a j = M.1 a j := fun a j => by
    by_cases z : a = c
    · by_cases y : j = k
      · exact Or.inl ⟨z, y⟩
      · right; rw [z]; exact wx_ne e y
    · right; rw [wc_x e z]
  have s : ∀ a, a = c → N.1 a k = x := fun a z => by rw [z]; exact wx_at e
  exact ⟨hF _ _ _ _ _ _ _ _ (w _) (s _) (w _) (s _) (w _) (s _) (w _) (s _) (w _) (s _) (w _) (s _) (w _) (s _) (w _) (s _), hw, cp, cv⟩
theorem agc_gr {M N : mm_M} {v : Nat} {k : Int} {x : Int} (hv : v = M.2.2 78 4) (e : N = wI M (s_p0 v 2) k.toNat (sI x)) (hx : -2147483648 ≤ x ∧ x ≤ 2147483647) (hk : 0 ≤ k ∧ k < 8) (q : Int × Int × Int × Int) (T : Nat → Int) (h : AGC M q T) : AGC N q (uT T (41 + k).toNat x) := by
  subst hv
  unfold AGC at *
  rw [wx_r e]
  obtain ⟨⟨a1, a2, a3, a4, a5⟩, b, cp, cv⟩ := h
  obtain ⟨⟨c1, c2, c3, c4⟩, c5, c6⟩ := ag_cd cp cv
  have e_p : N.1 (M.2.2 78 3) = M.1 (M.2.2 78 3) := wc_x e (s_ne cp c6 (by decide))
  have e_v : N.1 (M.2.2 78 4) = M.1 (M.2.2 78 4) := wc_x e (s_ne cv c6 (by decide))
  have e_v1 : N.1 (s_p0 (M.2.2 78 4) 1) = M.1 (s_p0 (M.2.2 78 4) 1) := wc_x e (s_ne c5 c6 (by decide))
  have e_p2 : N.1 (s_p0 (M.2.2 78 3) 2) = M.1 (s_p0 (M.2.2 78 3) 2) := wc_x e (s_ne c1 c6 (by decide))
  have e_p3 : N.1 (s_p0 (M.2.2 78 3) 3) = M.1 (s_p0 (M.2.2 78 3) 3) := wc_x e (s_ne c2 c6 (by decide))
  have e_p4 : N.1 (s_p0 (M.2.2 78 3) 4) = M.1 (s_p0 (M.2.2 78 3) 4) := wc_x e (s_ne c3 c6 (by decide))
  have e_p5 : N.1 (s_p0 (M.2.2 78 3) 5) = M.1 (s_p0 (M.2.2 78 3) 5) := wc_x e (s_ne c4 c6 (by decide))
  refine ⟨⟨⟨?_, ?_, ?_, ?_, ?_, ?_, ?_, ?_, ?_⟩, ⟨?_, ?_, ?_, ?_⟩, fun j h1 h2 => ?_, fun j h1 h2 => ?_, fun j h1 => ?_⟩, ?_, cp, cv⟩
  · rw [e_p]; rw [uT_o (by omega)]; exact a1.1
  · rw [e_p]; rw [uT_o (by omega)]; exact a1.2.1
  · rw [e_p]; rw [uT_o (by omega)]; exact a1.2.2.1
  · rw [e_v]; rw [uT_o (by omega)]; exact a1.2.2.2.1
  · rw [e_v]; rw [uT_o (by omega)]; exact a1.2.2.2.2.1
  · rw [e_v]; rw [uT_o (by omega)]; exact a1.2.2.2.2.2.1
  · rw [e_v]; rw [uT_o (by omega)]; exact a1.2.2.2.2.2.2.1
  · rw [e_v]; rw [uT_o (by omega)]; exact a1.2.2.2.2.2.2.2.1
  · rw [e_v]; rw [uT_o (by omega)]; exact a1.2.2.2.2.2.2.2.2
  · rw [e_p]; exact a2.1
  · rw [e_p]; exact a2.2.1
  · rw [e_p]; exact a2.2.2.1
  · rw [e_p]; exact a2.2.2.2
  · rw [uT_o (by omega)] at h1
    have z := a3 j h1 h2
    exact ⟨by rw [e_v1]; rw [uT_o (by omega)]; exact z.1, by
      by_cases y : j = k.toNat
      · rw [y, wx_at e, sI_t hx, show 41 + k.toNat = (41 + k).toNat by omega]; exact uT_s.symm
      · rw [wx_ne e y, uT_o (by omega)]; exact z.2⟩
  · rw [uT_o (by omega)] at h1
    have z := a4 j h1 h2
    exact ⟨by rw [e_p2]; rw [uT_o (by omega)]; exact z.1, by rw [e_p3]; rw [uT_o (by omega)]; exact z.2.1, by rw [e_p4]; rw [uT_o (by omega)]; exact z.2.2⟩
  · rw [uT_o (by omega)] at h1; rw [e_p5]; rw [uT_o (by omega)]; exact a5 j h1
  · unfold AGW; rw [uT_o (by omega), uT_o (by omega), uT_o (by omega)]; exact b
theorem agc_v3 {M N : mm_M} {v : Nat} {x : Int} (hv : v = M.2.2 78 4) (e : N = wI M v 3 (sI x)) (hx : -2147483648 ≤ x ∧ x ≤ 2147483647) (q : Int × Int × Int × Int) (T : Nat → Int) (h : AGC M q T) : AGC N q (uT T 27 x) := by
  subst hv
  unfold AGC at *
  rw [wx_r e]
  obtain ⟨⟨a1, a2, a3, a4, a5⟩, b, cp, cv⟩ := h
  obtain ⟨⟨c1, c2, c3, c4⟩, c5, c6⟩ := ag_cd cp cv
  have e_p : N.1 (M.2.2 78 3) = M.1 (M.2.2 78 3) := wc_x e (s_ne cp cv (by decide))
  have e_v1 : N.1 (s_p0 (M.2.2 78 4) 1) = M.1 (s_p0 (M.2.2 78 4) 1) := wc_x e (s_ne c5 cv (by decide))
  have e_v2 : N.1 (s_p0 (M.2.2 78 4) 2) = M.1 (s_p0 (M.2.2 78 4) 2) := wc_x e (s_ne c6 cv (by decide))
  have e_p2 : N.1 (s_p0 (M.2.2 78 3) 2) = M.1 (s_p0 (M.2.2 78 3) 2) := wc_x e (s_ne c1 cv (by decide))
  have e_p3 : N.1 (s_p0 (M.2.2 78 3) 3) = M.1 (s_p0 (M.2.2 78 3) 3) := wc_x e (s_ne c2 cv (by decide))
  have e_p4 : N.1 (s_p0 (M.2.2 78 3) 4) = M.1 (s_p0 (M.2.2 78 3) 4) := wc_x e (s_ne c3 cv (by decide))
  have e_p5 : N.1 (s_p0 (M.2.2 78 3) 5) = M.1 (s_p0 (M.2.2 78 3) 5) := wc_x e (s_ne c4 cv (by decide))
  refine ⟨⟨⟨?_, ?_, ?_, ?_, ?_, ?_, ?_, ?_, ?_⟩, ⟨?_, ?_, ?_, ?_⟩, fun j h1 h2 => ?_, fun j h1 h2 => ?_, fun j h1 => ?_⟩, ?_, cp, cv⟩
  · rw [e_p]; rw [uT_o (by omega)]; exact a1.1
  · rw [e_p]; rw [uT_o (by omega)]; exact a1.2.1
  · rw [e_p]; rw [uT_o (by omega)]; exact a1.2.2.1
  · rw [wx_ne e (by decide)]; rw [uT_o (by omega)]; exact a1.2.2.2.1
  · rw [wx_at e, sI_t hx]; exact uT_s.symm
  · rw [wx_ne e (by decide)]; rw [uT_o (by omega)]; exact a1.2.2.2.2.2.1
  · rw [wx_ne e (by decide)]; rw [uT_o (by omega)]; exact a1.2.2.2.2.2.2.1
  · rw [wx_ne e (by decide)]; rw [uT_o (by omega)]; exact a1.2.2.2.2.2.2.2.1
  · rw [wx_ne e (by decide)]; rw [uT_o (by omega)]; exact a1.2.2.2.2.2.2.2.2
  · rw [e_p]; exact a2.1
  · rw [e_p]; exact a2.2.1
  · rw [e_p]; exact a2.2.2.1
  · rw [e_p]; exact a2.2.2.2
  · rw [uT_o (by omega)] at h1
    have z := a3 j h1 h2
    exact ⟨by rw [e_v1]; rw [uT_o (by omega)]; exact z.1, by rw [e_v2]; rw [uT_o (by omega)]; exact z.2⟩
  · rw [uT_o (by omega)] at h1
    have z := a4 j h1 h2
    exact ⟨by rw [e_p2]; rw [uT_o (by omega)]; exact z.1, by rw [e_p3]; rw [uT_o (by omega)]; exact z.2.1, by rw [e_p4]; rw [uT_o (by omega)]; exact z.2.2⟩
  · rw [uT_o (by omega)] at h1; rw [e_p5]; rw [uT_o (by omega)]; exact a5 j h1
  · unfold AGW; rw [uT_o (by omega), uT_o (by omega), uT_o (by omega)]; exact b
theorem agc_v4 {M N : mm_M} {v : Nat} {x : Int} (hv : v = M.2.2 78 4) (e : N = wI M v 4 (sI x)) (hx : -2147483648 ≤ x ∧ x ≤ 2147483647) (q : Int × Int × Int × Int) (T : Nat → Int) (h : AGC M q T) : AGC N q (uT T 28 x) := by
  subst hv
  unfold AGC at *
  rw [wx_r e]
  obtain ⟨⟨a1, a2, a3, a4, a5⟩, b, cp, cv⟩ := h
  obtain ⟨⟨c1, c2, c3, c4⟩, c5, c6⟩ := ag_cd cp cv
  have e_p : N.1 (M.2.2 78 3) = M.1 (M.2.2 78 3) := wc_x e (s_ne cp cv (by decide))
  have e_v1 : N.1 (s_p0 (M.2.2 78 4) 1) = M.1 (s_p0 (M.2.2 78 4) 1) := wc_x e (s_ne c5 cv (by decide))
  have e_v2 : N.1 (s_p0 (M.2.2 78 4) 2) = M.1 (s_p0 (M.2.2 78 4) 2) := wc_x e (s_ne c6 cv (by decide))
  have e_p2 : N.1 (s_p0 (M.2.2 78 3) 2) = M.1 (s_p0 (M.2.2 78 3) 2) := wc_x e (s_ne c1 cv (by decide))
  have e_p3 : N.1 (s_p0 (M.2.2 78 3) 3) = M.1 (s_p0 (M.2.2 78 3) 3) := wc_x e (s_ne c2 cv (by decide))
  have e_p4 : N.1 (s_p0 (M.2.2 78 3) 4) = M.1 (s_p0 (M.2.2 78 3) 4) := wc_x e (s_ne c3 cv (by decide))
  have e_p5 : N.1 (s_p0 (M.2.2 78 3) 5) = M.1 (s_p0 (M.2.2 78 3) 5) := wc_x e (s_ne c4 cv (by decide))
  refine ⟨⟨⟨?_, ?_, ?_, ?_, ?_, ?_, ?_, ?_, ?_⟩, ⟨?_, ?_, ?_, ?_⟩, fun j h1 h2 => ?_, fun j h1 h2 => ?_, fun j h1 => ?_⟩, ?_, cp, cv⟩
  · rw [e_p]; rw [uT_o (by omega)]; exact a1.1
  · rw [e_p]; rw [uT_o (by omega)]; exact a1.2.1
  · rw [e_p]; rw [uT_o (by omega)]; exact a1.2.2.1
  · rw [wx_ne e (by decide)]; rw [uT_o (by omega)]; exact a1.2.2.2.1
  · rw [wx_ne e (by decide)]; rw [uT_o (by omega)]; exact a1.2.2.2.2.1
  · rw [wx_at e, sI_t hx]; exact uT_s.symm
  · rw [wx_ne e (by decide)]; rw [uT_o (by omega)]; exact a1.2.2.2.2.2.2.1
  · rw [wx_ne e (by decide)]; rw [uT_o (by omega)]; exact a1.2.2.2.2.2.2.2.1
  · rw [wx_ne e (by decide)]; rw [uT_o (by omega)]; exact a1.2.2.2.2.2.2.2.2
  · rw [e_p]; exact a2.1
  · rw [e_p]; exact a2.2.1
  · rw [e_p]; exact a2.2.2.1
  · rw [e_p]; exact a2.2.2.2
  · rw [uT_o (by omega)] at h1
    have z := a3 j h1 h2
    exact ⟨by rw [e_v1]; rw [uT_o (by omega)]; exact z.1, by rw [e_v2]; rw [uT_o (by omega)]; exact z.2⟩
  · rw [uT_o (by omega)] at h1
    have z := a4 j h1 h2
    exact ⟨by rw [e_p2]; rw [uT_o (by omega)]; exact z.1, by rw [e_p3]; rw [uT_o (by omega)]; exact z.2.1, by rw [e_p4]; rw [uT_o (by omega)]; exact z.2.2⟩
  · rw [uT_o (by omega)] at h1; rw [e_p5]; rw [uT_o (by omega)]; exact a5 j h1
  · unfold AGW; rw [uT_o (by omega), uT_o (by omega), uT_o (by omega)]; exact b
theorem agc_mi {M N : mm_M} {p : Nat} {k : Int} {x : Int} (hv : p = M.2.2 78 3) (e : N = wI M (s_p0 p 3) k.toNat (sI x)) (hx : -2147483648 ≤ x ∧ x ≤ 2147483647) (hk : 0 ≤ k ∧ k < 6) (q : Int × Int × Int × Int) (T : Nat → Int) (h : AGC M q T) : AGC N q (uT T (14 + k).toNat x) := by
  subst hv
  unfold AGC at *
  rw [wx_r e]
  obtain ⟨⟨a1, a2, a3, a4, a5⟩, b, cp, cv⟩ := h
  obtain ⟨⟨c1, c2, c3, c4⟩, c5, c6⟩ := ag_cd cp cv
  have e_p : N.1 (M.2.2 78 3) = M.1 (M.2.2 78 3) := wc_x e (s_ne cp c2 (by decide))
  have e_v : N.1 (M.2.2 78 4) = M.1 (M.2.2 78 4) := wc_x e (s_ne cv c2 (by decide))
  have e_v1 : N.1 (s_p0 (M.2.2 78 4) 1) = M.1 (s_p0 (M.2.2 78 4) 1) := wc_x e (s_ne c5 c2 (by decide))
  have e_v2 : N.1 (s_p0 (M.2.2 78 4) 2) = M.1 (s_p0 (M.2.2 78 4) 2) := wc_x e (s_ne c6 c2 (by decide))
  have e_p2 : N.1 (s_p0 (M.2.2 78 3) 2) = M.1 (s_p0 (M.2.2 78 3) 2) := wc_x e (s_ne c1 c2 (by decide))
  have e_p4 : N.1 (s_p0 (M.2.2 78 3) 4) = M.1 (s_p0 (M.2.2 78 3) 4) := wc_x e (s_ne c3 c2 (by decide))
  have e_p5 : N.1 (s_p0 (M.2.2 78 3) 5) = M.1 (s_p0 (M.2.2 78 3) 5) := wc_x e (s_ne c4 c2 (by decide))
  refine ⟨⟨⟨?_, ?_, ?_, ?_, ?_, ?_, ?_, ?_, ?_⟩, ⟨?_, ?_, ?_, ?_⟩, fun j h1 h2 => ?_, fun j h1 h2 => ?_, fun j h1 => ?_⟩, ?_, cp, cv⟩
  · rw [e_p]; rw [uT_o (by omega)]; exact a1.1
  · rw [e_p]; rw [uT_o (by omega)]; exact a1.2.1
  · rw [e_p]; rw [uT_o (by omega)]; exact a1.2.2.1
  · rw [e_v]; rw [uT_o (by omega)]; exact a1.2.2.2.1
  · rw [e_v]; rw [uT_o (by omega)]; exact a1.2.2.2.2.1
  · rw [e_v]; rw [uT_o (by omega)]; exact a1.2.2.2.2.2.1
  · rw [e_v]; rw [uT_o (by omega)]; exact a1.2.2.2.2.2.2.1
  · rw [e_v]; rw [uT_o (by omega)]; exact a1.2.2.2.2.2.2.2.1
  · rw [e_v]; rw [uT_o (by omega)]; exact a1.2.2.2.2.2.2.2.2
  · rw [e_p]; exact a2.1
  · rw [e_p]; exact a2.2.1
  · rw [e_p]; exact a2.2.2.1
  · rw [e_p]; exact a2.2.2.2
  · rw [uT_o (by omega)] at h1
    have z := a3 j h1 h2
    exact ⟨by rw [e_v1]; rw [uT_o (by omega)]; exact z.1, by rw [e_v2]; rw [uT_o (by omega)]; exact z.2⟩
  · rw [uT_o (by omega)] at h1
    have z := a4 j h1 h2
    exact ⟨by rw [e_p2]; rw [uT_o (by omega)]; exact z.1, by
      by_cases y : j = k.toNat
      · rw [y, wx_at e, sI_t hx, show 14 + k.toNat = (14 + k).toNat by omega]; exact uT_s.symm
      · rw [wx_ne e y, uT_o (by omega)]; exact z.2.1, by rw [e_p4]; rw [uT_o (by omega)]; exact z.2.2⟩
  · rw [uT_o (by omega)] at h1; rw [e_p5]; rw [uT_o (by omega)]; exact a5 j h1
  · unfold AGW; rw [uT_o (by omega), uT_o (by omega), uT_o (by omega)]; exact b
theorem agc_od {M N : mm_M} {p : Nat} {k : Int} {x : Int} (hv : p = M.2.2 78 3) (e : N = wI M (s_p0 p 4) k.toNat (sI x)) (hx : -2147483648 ≤ x ∧ x ≤ 2147483647) (hk : 0 ≤ k ∧ k < 6) (q : Int × Int × Int × Int) (T : Nat → Int) (h : AGC M q T) : AGC N q (uT T (20 + k).toNat x) := by
  subst hv
  unfold AGC at *
  rw [wx_r e]
  obtain ⟨⟨a1, a2, a3, a4, a5⟩, b, cp, cv⟩ := h
  obtain ⟨⟨c1, c2, c3, c4⟩, c5, c6⟩ := ag_cd cp cv
  have e_p : N.1 (M.2.2 78 3) = M.1 (M.2.2 78 3) := wc_x e (s_ne cp c3 (by decide))
  have e_v : N.1 (M.2.2 78 4) = M.1 (M.2.2 78 4) := wc_x e (s_ne cv c3 (by decide))
  have e_v1 : N.1 (s_p0 (M.2.2 78 4) 1) = M.1 (s_p0 (M.2.2 78 4) 1) := wc_x e (s_ne c5 c3 (by decide))
  have e_v2 : N.1 (s_p0 (M.2.2 78 4) 2) = M.1 (s_p0 (M.2.2 78 4) 2) := wc_x e (s_ne c6 c3 (by decide))
  have e_p2 : N.1 (s_p0 (M.2.2 78 3) 2) = M.1 (s_p0 (M.2.2 78 3) 2) := wc_x e (s_ne c1 c3 (by decide))
  have e_p3 : N.1 (s_p0 (M.2.2 78 3) 3) = M.1 (s_p0 (M.2.2 78 3) 3) := wc_x e (s_ne c2 c3 (by decide))
  have e_p5 : N.1 (s_p0 (M.2.2 78 3) 5) = M.1 (s_p0 (M.2.2 78 3) 5) := wc_x e (s_ne c4 c3 (by decide))
  refine ⟨⟨⟨?_, ?_, ?_, ?_, ?_, ?_, ?_, ?_, ?_⟩, ⟨?_, ?_, ?_, ?_⟩, fun j h1 h2 => ?_, fun j h1 h2 => ?_, fun j h1 => ?_⟩, ?_, cp, cv⟩
  · rw [e_p]; rw [uT_o (by omega)]; exact a1.1
  · rw [e_p]; rw [uT_o (by omega)]; exact a1.2.1
  · rw [e_p]; rw [uT_o (by omega)]; exact a1.2.2.1
  · rw [e_v]; rw [uT_o (by omega)]; exact a1.2.2.2.1
  · rw [e_v]; rw [uT_o (by omega)]; exact a1.2.2.2.2.1
  · rw [e_v]; rw [uT_o (by omega)]; exact a1.2.2.2.2.2.1
  · rw [e_v]; rw [uT_o (by omega)]; exact a1.2.2.2.2.2.2.1
  · rw [e_v]; rw [uT_o (by omega)]; exact a1.2.2.2.2.2.2.2.1
  · rw [e_v]; rw [uT_o (by omega)]; exact a1.2.2.2.2.2.2.2.2
  · rw [e_p]; exact a2.1
  · rw [e_p]; exact a2.2.1
  · rw [e_p]; exact a2.2.2.1
  · rw [e_p]; exact a2.2.2.2
  · rw [uT_o (by omega)] at h1
    have z := a3 j h1 h2
    exact ⟨by rw [e_v1]; rw [uT_o (by omega)]; exact z.1, by rw [e_v2]; rw [uT_o (by omega)]; exact z.2⟩
  · rw [uT_o (by omega)] at h1
    have z := a4 j h1 h2
    exact ⟨by rw [e_p2]; rw [uT_o (by omega)]; exact z.1, by rw [e_p3]; rw [uT_o (by omega)]; exact z.2.1, by
      by_cases y : j = k.toNat
      · rw [y, wx_at e, sI_t hx, show 20 + k.toNat = (20 + k).toNat by omega]; exact uT_s.symm
      · rw [wx_ne e y, uT_o (by omega)]; exact z.2.2⟩
  · rw [uT_o (by omega)] at h1; rw [e_p5]; rw [uT_o (by omega)]; exact a5 j h1
  · unfold AGW; rw [uT_o (by omega), uT_o (by omega), uT_o (by omega)]; exact b
theorem agc_p1 {M N : mm_M} {p : Nat} {x : Int} (hv : p = M.2.2 78 3) (e : N = wI M p 1 (sI x)) (hx : -2147483648 ≤ x ∧ x ≤ 2147483647) (q : Int × Int × Int × Int) (T : Nat → Int) (h : AGC M q T) : AGC N q (uT T 0 x) := by
  subst hv
  unfold AGC at *
  rw [wx_r e]
  obtain ⟨⟨a1, a2, a3, a4, a5⟩, b, cp, cv⟩ := h
  obtain ⟨⟨c1, c2, c3, c4⟩, c5, c6⟩ := ag_cd cp cv
  have e_v : N.1 (M.2.2 78 4) = M.1 (M.2.2 78 4) := wc_x e (s_ne cv cp (by decide))
  have e_v1 : N.1 (s_p0 (M.2.2 78 4) 1) = M.1 (s_p0 (M.2.2 78 4) 1) := wc_x e (s_ne c5 cp (by decide))
  have e_v2 : N.1 (s_p0 (M.2.2 78 4) 2) = M.1 (s_p0 (M.2.2 78 4) 2) := wc_x e (s_ne c6 cp (by decide))
  have e_p2 : N.1 (s_p0 (M.2.2 78 3) 2) = M.1 (s_p0 (M.2.2 78 3) 2) := wc_x e (s_ne c1 cp (by decide))
  have e_p3 : N.1 (s_p0 (M.2.2 78 3) 3) = M.1 (s_p0 (M.2.2 78 3) 3) := wc_x e (s_ne c2 cp (by decide))
  have e_p4 : N.1 (s_p0 (M.2.2 78 3) 4) = M.1 (s_p0 (M.2.2 78 3) 4) := wc_x e (s_ne c3 cp (by decide))
  have e_p5 : N.1 (s_p0 (M.2.2 78 3) 5) = M.1 (s_p0 (M.2.2 78 3) 5) := wc_x e (s_ne c4 cp (by decide))
  refine ⟨⟨⟨?_, ?_, ?_, ?_, ?_, ?_, ?_, ?_, ?_⟩, ⟨?_, ?_, ?_, ?_⟩, fun j h1 h2 => ?_, fun j h1 h2 => ?_, fun j h1 => ?_⟩, ?_, cp, cv⟩
  · rw [wx_ne e (by decide)]; rw [uT_o (by omega)]; exact a1.1
  · rw [wx_at e, sI_t hx]; exact uT_s.symm
  · rw [wx_ne e (by decide)]; rw [uT_o (by omega)]; exact a1.2.2.1
  · rw [e_v]; rw [uT_o (by omega)]; exact a1.2.2.2.1
  · rw [e_v]; rw [uT_o (by omega)]; exact a1.2.2.2.2.1
  · rw [e_v]; rw [uT_o (by omega)]; exact a1.2.2.2.2.2.1
  · rw [e_v]; rw [uT_o (by omega)]; exact a1.2.2.2.2.2.2.1
  · rw [e_v]; rw [uT_o (by omega)]; exact a1.2.2.2.2.2.2.2.1
  · rw [e_v]; rw [uT_o (by omega)]; exact a1.2.2.2.2.2.2.2.2
  · rw [wx_ne e (by decide)]; exact a2.1
  · rw [wx_ne e (by decide)]; exact a2.2.1
  · rw [wx_ne e (by decide)]; exact a2.2.2.1
  · rw [wx_ne e (by decide)]; exact a2.2.2.2
  · rw [uT_o (by omega)] at h1
    have z := a3 j h1 h2
    exact ⟨by rw [e_v1]; rw [uT_o (by omega)]; exact z.1, by rw [e_v2]; rw [uT_o (by omega)]; exact z.2⟩
  · rw [uT_o (by omega)] at h1
    have z := a4 j h1 h2
    exact ⟨by rw [e_p2]; rw [uT_o (by omega)]; exact z.1, by rw [e_p3]; rw [uT_o (by omega)]; exact z.2.1, by rw [e_p4]; rw [uT_o (by omega)]; exact z.2.2⟩
  · rw [uT_o (by omega)] at h1; rw [e_p5]; rw [uT_o (by omega)]; exact a5 j h1
  · unfold AGW; rw [uT_o (by omega), uT_o (by omega), uT_o (by omega)]; exact b
theorem agc_p7 {M N : mm_M} {p : Nat} {x : Int} (hv : p = M.2.2 78 3) (e : N = wI M p 7 (sI x)) (hx : -2147483648 ≤ x ∧ x ≤ 2147483647) (q : Int × Int × Int × Int) (T : Nat → Int) (h : AGC M q T) : AGC N (x, q.2.1, q.2.2.1, q.2.2.2) T := by
  subst hv
  unfold AGC at *
  rw [wx_r e]
  obtain ⟨⟨a1, a2, a3, a4, a5⟩, b, cp, cv⟩ := h
  obtain ⟨⟨c1, c2, c3, c4⟩, c5, c6⟩ := ag_cd cp cv
  have e_v : N.1 (M.2.2 78 4) = M.1 (M.2.2 78 4) := wc_x e (s_ne cv cp (by decide))
  have e_v1 : N.1 (s_p0 (M.2.2 78 4) 1) = M.1 (s_p0 (M.2.2 78 4) 1) := wc_x e (s_ne c5 cp (by decide))
  have e_v2 : N.1 (s_p0 (M.2.2 78 4) 2) = M.1 (s_p0 (M.2.2 78 4) 2) := wc_x e (s_ne c6 cp (by decide))
  have e_p2 : N.1 (s_p0 (M.2.2 78 3) 2) = M.1 (s_p0 (M.2.2 78 3) 2) := wc_x e (s_ne c1 cp (by decide))
  have e_p3 : N.1 (s_p0 (M.2.2 78 3) 3) = M.1 (s_p0 (M.2.2 78 3) 3) := wc_x e (s_ne c2 cp (by decide))
  have e_p4 : N.1 (s_p0 (M.2.2 78 3) 4) = M.1 (s_p0 (M.2.2 78 3) 4) := wc_x e (s_ne c3 cp (by decide))
  have e_p5 : N.1 (s_p0 (M.2.2 78 3) 5) = M.1 (s_p0 (M.2.2 78 3) 5) := wc_x e (s_ne c4 cp (by decide))
  refine ⟨⟨⟨?_, ?_, ?_, ?_, ?_, ?_, ?_, ?_, ?_⟩, ⟨?_, ?_, ?_, ?_⟩, fun j h1 h2 => ?_, fun j h1 h2 => ?_, fun j h1 => ?_⟩, ?_, cp, cv⟩
  · rw [wx_ne e (by decide)]; exact a1.1
  · rw [wx_ne e (by decide)]; exact a1.2.1
  · rw [wx_ne e (by decide)]; exact a1.2.2.1
  · rw [e_v]; exact a1.2.2.2.1
  · rw [e_v]; exact a1.2.2.2.2.1
  · rw [e_v]; exact a1.2.2.2.2.2.1
  · rw [e_v]; exact a1.2.2.2.2.2.2.1
  · rw [e_v]; exact a1.2.2.2.2.2.2.2.1
  · rw [e_v]; exact a1.2.2.2.2.2.2.2.2
  · rw [wx_at e, sI_t hx]
  · rw [wx_ne e (by decide)]; exact a2.2.1
  · rw [wx_ne e (by decide)]; exact a2.2.2.1
  · rw [wx_ne e (by decide)]; exact a2.2.2.2
  · skip
    have z := a3 j h1 h2
    exact ⟨by rw [e_v1]; exact z.1, by rw [e_v2]; exact z.2⟩
  · skip
    have z := a4 j h1 h2
    exact ⟨by rw [e_p2]; exact z.1, by rw [e_p3]; exact z.2.1, by rw [e_p4]; exact z.2.2⟩
  · rw [e_p5]; exact a5 j h1
  · exact b
theorem agc_p8 {M N : mm_M} {p : Nat} {x : Int} (hv : p = M.2.2 78 3) (e : N = wI M p 8 (sI x)) (hx : -2147483648 ≤ x ∧ x ≤ 2147483647) (q : Int × Int × Int × Int) (T : Nat → Int) (h : AGC M q T) : AGC N (q.1, x, q.2.2.1, q.2.2.2) T := by
  subst hv
  unfold AGC at *
  rw [wx_r e]
  obtain ⟨⟨a1, a2, a3, a4, a5⟩, b, cp, cv⟩ := h
  obtain ⟨⟨c1, c2, c3, c4⟩, c5, c6⟩ := ag_cd cp cv
  have e_v : N.1 (M.2.2 78 4) = M.1 (M.2.2 78 4) := wc_x e (s_ne cv cp (by decide))
  have e_v1 : N.1 (s_p0 (M.2.2 78 4) 1) = M.1 (s_p0 (M.2.2 78 4) 1) := wc_x e (s_ne c5 cp (by decide))
  have e_v2 : N.1 (s_p0 (M.2.2 78 4) 2) = M.1 (s_p0 (M.2.2 78 4) 2) := wc_x e (s_ne c6 cp (by decide))
  have e_p2 : N.1 (s_p0 (M.2.2 78 3) 2) = M.1 (s_p0 (M.2.2 78 3) 2) := wc_x e (s_ne c1 cp (by decide))
  have e_p3 : N.1 (s_p0 (M.2.2 78 3) 3) = M.1 (s_p0 (M.2.2 78 3) 3) := wc_x e (s_ne c2 cp (by decide))
  have e_p4 : N.1 (s_p0 (M.2.2 78 3) 4) = M.1 (s_p0 (M.2.2 78 3) 4) := wc_x e (s_ne c3 cp (by decide))
  have e_p5 : N.1 (s_p0 (M.2.2 78 3) 5) = M.1 (s_p0 (M.2.2 78 3) 5) := wc_x e (s_ne c4 cp (by decide))
  refine ⟨⟨⟨?_, ?_, ?_, ?_, ?_, ?_, ?_, ?_, ?_⟩, ⟨?_, ?_, ?_, ?_⟩, fun j h1 h2 => ?_, fun j h1 h2 => ?_, fun j h1 => ?_⟩, ?_, cp, cv⟩
  · rw [wx_ne e (by decide)]; exact a1.1
  · rw [wx_ne e (by decide)]; exact a1.2.1
  · rw [wx_ne e (by decide)]; exact a1.2.2.1
  · rw [e_v]; exact a1.2.2.2.1
  · rw [e_v]; exact a1.2.2.2.2.1
  · rw [e_v]; exact a1.2.2.2.2.2.1
  · rw [e_v]; exact a1.2.2.2.2.2.2.1
  · rw [e_v]; exact a1.2.2.2.2.2.2.2.1
  · rw [e_v]; exact a1.2.2.2.2.2.2.2.2
  · rw [wx_ne e (by decide)]; exact a2.1
  · rw [wx_at e, sI_t hx]
  · rw [wx_ne e (by decide)]; exact a2.2.2.1
  · rw [wx_ne e (by decide)]; exact a2.2.2.2
  · skip
    have z := a3 j h1 h2
    exact ⟨by rw [e_v1]; exact z.1, by rw [e_v2]; exact z.2⟩
  · skip
    have z := a4 j h1 h2
    exact ⟨by rw [e_p2]; exact z.1, by rw [e_p3]; exact z.2.1, by rw [e_p4]; exact z.2.2⟩
  · rw [e_p5]; exact a5 j h1
  · exact b
theorem agc_p9 {M N : mm_M} {p : Nat} {x : Int} (hv : p = M.2.2 78 3) (e : N = wI M p 9 (sI x)) (hx : -2147483648 ≤ x ∧ x ≤ 2147483647) (q : Int × Int × Int × Int) (T : Nat → Int) (h : AGC M q T) : AGC N (q.1, q.2.1, x, q.2.2.2) T := by
  subst hv
  unfold AGC at *
  rw [wx_r e]
  obtain ⟨⟨a1, a2, a3, a4, a5⟩, b, cp, cv⟩ := h
  obtain ⟨⟨c1, c2, c3, c4⟩, c5, c6⟩ := ag_cd cp cv
  have e_v : N.1 (M.2.2 78 4) = M.1 (M.2.2 78 4) := wc_x e (s_ne cv cp (by decide))
  have e_v1 : N.1 (s_p0 (M.2.2 78 4) 1) = M.1 (s_p0 (M.2.2 78 4) 1) := wc_x e (s_ne c5 cp (by decide))
  have e_v2 : N.1 (s_p0 (M.2.2 78 4) 2) = M.1 (s_p0 (M.2.2 78 4) 2) := wc_x e (s_ne c6 cp (by decide))
  have e_p2 : N.1 (s_p0 (M.2.2 78 3) 2) = M.1 (s_p0 (M.2.2 78 3) 2) := wc_x e (s_ne c1 cp (by decide))
  have e_p3 : N.1 (s_p0 (M.2.2 78 3) 3) = M.1 (s_p0 (M.2.2 78 3) 3) := wc_x e (s_ne c2 cp (by decide))
  have e_p4 : N.1 (s_p0 (M.2.2 78 3) 4) = M.1 (s_p0 (M.2.2 78 3) 4) := wc_x e (s_ne c3 cp (by decide))
  have e_p5 : N.1 (s_p0 (M.2.2 78 3) 5) = M.1 (s_p0 (M.2.2 78 3) 5) := wc_x e (s_ne c4 cp (by decide))
  refine ⟨⟨⟨?_, ?_, ?_, ?_, ?_, ?_, ?_, ?_, ?_⟩, ⟨?_, ?_, ?_, ?_⟩, fun j h1 h2 => ?_, fun j h1 h2 => ?_, fun j h1 => ?_⟩, ?_, cp, cv⟩
  · rw [wx_ne e (by decide)]; exact a1.1
  · rw [wx_ne e (by decide)]; exact a1.2.1
  · rw [wx_ne e (by decide)]; exact a1.2.2.1
  · rw [e_v]; exact a1.2.2.2.1
  · rw [e_v]; exact a1.2.2.2.2.1
  · rw [e_v]; exact a1.2.2.2.2.2.1
  · rw [e_v]; exact a1.2.2.2.2.2.2.1
  · rw [e_v]; exact a1.2.2.2.2.2.2.2.1
  · rw [e_v]; exact a1.2.2.2.2.2.2.2.2
  · rw [wx_ne e (by decide)]; exact a2.1
  · rw [wx_ne e (by decide)]; exact a2.2.1
  · rw [wx_at e, sI_t hx]
  · rw [wx_ne e (by decide)]; exact a2.2.2.2
  · skip
    have z := a3 j h1 h2
    exact ⟨by rw [e_v1]; exact z.1, by rw [e_v2]; exact z.2⟩
  · skip
    have z := a4 j h1 h2
    exact ⟨by rw [e_p2]; exact z.1, by rw [e_p3]; exact z.2.1, by rw [e_p4]; exact z.2.2⟩
  · rw [e_p5]; exact a5 j h1
  · exact b
theorem agc_p10 {M N : mm_M} {p : Nat} {x : Int} (hv : p = M.2.2 78 3) (e : N = wI M p 10 (sI x)) (hx : -2147483648 ≤ x ∧ x ≤ 2147483647) (q : Int × Int × Int × Int) (T : Nat → Int) (h : AGC M q T) : AGC N (q.1, q.2.1, q.2.2.1, x) T := by
  subst hv
  unfold AGC at *
  rw [wx_r e]
  obtain ⟨⟨a1, a2, a3, a4, a5⟩, b, cp, cv⟩ := h
  obtain ⟨⟨c1, c2, c3, c4⟩, c5, c6⟩ := ag_cd cp cv
  have e_v : N.1 (M.2.2 78 4) = M.1 (M.2.2 78 4) := wc_x e (s_ne cv cp (by decide))
  have e_v1 : N.1 (s_p0 (M.2.2 78 4) 1) = M.1 (s_p0 (M.2.2 78 4) 1) := wc_x e (s_ne c5 cp (by decide))
  have e_v2 : N.1 (s_p0 (M.2.2 78 4) 2) = M.1 (s_p0 (M.2.2 78 4) 2) := wc_x e (s_ne c6 cp (by decide))
  have e_p2 : N.1 (s_p0 (M.2.2 78 3) 2) = M.1 (s_p0 (M.2.2 78 3) 2) := wc_x e (s_ne c1 cp (by decide))
  have e_p3 : N.1 (s_p0 (M.2.2 78 3) 3) = M.1 (s_p0 (M.2.2 78 3) 3) := wc_x e (s_ne c2 cp (by decide))
  have e_p4 : N.1 (s_p0 (M.2.2 78 3) 4) = M.1 (s_p0 (M.2.2 78 3) 4) := wc_x e (s_ne c3 cp (by decide))
  have e_p5 : N.1 (s_p0 (M.2.2 78 3) 5) = M.1 (s_p0 (M.2.2 78 3) 5) := wc_x e (s_ne c4 cp (by decide))
  refine ⟨⟨⟨?_, ?_, ?_, ?_, ?_, ?_, ?_, ?_, ?_⟩, ⟨?_, ?_, ?_, ?_⟩, fun j h1 h2 => ?_, fun j h1 h2 => ?_, fun j h1 => ?_⟩, ?_, cp, cv⟩
  · rw [wx_ne e (by decide)]; exact a1.1
  · rw [wx_ne e (by decide)]; exact a1.2.1
  · rw [wx_ne e (by decide)]; exact a1.2.2.1
  · rw [e_v]; exact a1.2.2.2.1
  · rw [e_v]; exact a1.2.2.2.2.1
  · rw [e_v]; exact a1.2.2.2.2.2.1
  · rw [e_v]; exact a1.2.2.2.2.2.2.1
  · rw [e_v]; exact a1.2.2.2.2.2.2.2.1
  · rw [e_v]; exact a1.2.2.2.2.2.2.2.2
  · rw [wx_ne e (by decide)]; exact a2.1
  · rw [wx_ne e (by decide)]; exact a2.2.1
  · rw [wx_ne e (by decide)]; exact a2.2.2.1
  · rw [wx_at e, sI_t hx]
  · skip
    have z := a3 j h1 h2
    exact ⟨by rw [e_v1]; exact z.1, by rw [e_v2]; exact z.2⟩
  · skip
    have z := a4 j h1 h2
    exact ⟨by rw [e_p2]; exact z.1, by rw [e_p3]; exact z.2.1, by rw [e_p4]; exact z.2.2⟩
  · rw [e_p5]; exact a5 j h1
  · exact b
theorem agc_ki {M M1 M2 N : mm_M} {v : Nat} {k x y z : Int} (hv : v = M.2.2 78 4) (e1 : M1 = wI M (s_p0 v 1) k.toNat (sI x)) (e2 : M2 = wI M1 (s_p0 v 2) k.toNat (sI z)) (e3 : N = wI M2 v 0 (sI y)) (hk : k = (M.1 v 0).toInt ∧ 0 ≤ k ∧ k < 8 ∧ y = k + 1 ∧ z = 0) (hx : -2147483648 ≤ x ∧ x ≤ 2147483647) (q : Int × Int × Int × Int) (T : Nat → Int) (h : AGC M q T) : AGC N q (uT (uT (uT T (33 + k).toNat x) (41 + k).toNat 0) 26 (k + 1)) := by
  subst hv
  unfold AGC at *
  rw [wx_r e3, wx_r e2, wx_r e1]
  obtain ⟨⟨a1, a2, a3, a4, a5⟩, b, cp, cv⟩ := h
  obtain ⟨⟨c1, c2, c3, c4⟩, c5, c6⟩ := ag_cd cp cv
  have cell : ∀ i, s_c i ≠ 8 → s_c i ≠ 25 → s_c i ≠ 26 → N.1 i = M.1 i := fun i h8 h25 h26 => (wc_x e3 (fun w => h8 (by rw [w]; exact cv))).trans ((wc_x e2 (fun w => h26 (by rw [w]; exact c6))).trans (wc_x e1 (fun w => h25 (by rw [w]; exact c5))))
  have ep : N.1 (M.2.2 78 3) = M.1 (M.2.2 78 3) := cell _ (by rw [cp]; decide) (by rw [cp]; decide) (by rw [cp]; decide)
  have kv : ∀ j, j ≠ 0 → N.1 (M.2.2 78 4) j = M.1 (M.2.2 78 4) j := fun j hj => (wx_ne e3 hj).trans (by rw [wc_x e2 (s_ne cv c6 (by decide)), wc_x e1 (s_ne cv c5 (by decide))])
  have k1 : N.1 (s_p0 (M.2.2 78 4) 1) = M1.1 (s_p0 (M.2.2 78 4) 1) := (wc_x e3 (s_ne c5 cv (by decide))).trans (wc_x e2 (s_ne c5 c6 (by decide)))
  have k2 : N.1 (s_p0 (M.2.2 78 4) 2) = M2.1 (s_p0 (M.2.2 78 4) 2) := wc_x e3 (s_ne c6 cv (by decide))
  have j2 : M1.1 (s_p0 (M.2.2 78 4) 2) = M.1 (s_p0 (M.2.2 78 4) 2) := wc_x e1 (s_ne c6 c5 (by decide))
  have t26 : uT (uT (uT T (33 + k).toNat x) (41 + k).toNat 0) 26 (k + 1) 26 = k + 1 := uT_s
  have t : ∀ j : Nat, j ≠ 26 → j ≠ (33 + k).toNat → j ≠ (41 + k).toNat → uT (uT (uT T (33 + k).toNat x) (41 + k).toNat 0) 26 (k + 1) j = T j := fun j h1 h2 h3 => by rw [uT_o h1, uT_o h3, uT_o h2]
  have kT : k = T 26 := by rw [hk.1]; exact a1.2.2.2.1
  refine ⟨⟨⟨?_, ?_, ?_, ?_, ?_, ?_, ?_, ?_, ?_⟩, ⟨?_, ?_, ?_, ?_⟩, fun j h1 h2 => ?_, fun j h1 h2 => ?_, fun j h1 => ?_⟩, ?_, cp, cv⟩
  · rw [ep, t 1 (by omega) (by omega) (by omega)]; exact a1.1
  · rw [ep, t 0 (by omega) (by omega) (by omega)]; exact a1.2.1
  · rw [ep, t 280 (by omega) (by omega) (by omega)]; exact a1.2.2.1
  · rw [wx_at e3, sI_t (by omega), t26]; omega
  · rw [kv 3 (by decide), t 27 (by omega) (by omega) (by omega)]; exact a1.2.2.2.2.1
  · rw [kv 4 (by decide), t 28 (by omega) (by omega) (by omega)]; exact a1.2.2.2.2.2.1
  · rw [kv 5 (by decide), t 29 (by omega) (by omega) (by omega)]; exact a1.2.2.2.2.2.2.1
  · rw [kv 6 (by decide), t 30 (by omega) (by omega) (by omega)]; exact a1.2.2.2.2.2.2.2.1
  · rw [kv 8 (by decide), t 32 (by omega) (by omega) (by omega)]; exact a1.2.2.2.2.2.2.2.2
  · rw [ep]; exact a2.1
  · rw [ep]; exact a2.2.1
  · rw [ep]; exact a2.2.2.1
  · rw [ep]; exact a2.2.2.2
  · rw [t26] at h1
    rw [k1, k2]
    by_cases w : j = k.toNat
    · rw [w, wx_at e1, wx_at e2, sI_t hx, sI_t (by omega), uT_o (by omega), uT_o (by omega), show 33 + k.toNat = (33 + k).toNat by omega, uT_s, uT_o (by omega), show 41 + k.toNat = (41 + k).toNat by omega, uT_s]
      exact ⟨rfl, hk.2.2.2.2⟩
    · rw [wx_ne e1 w, wx_ne e2 w, j2, t _ (by omega) (by omega) (by omega), t _ (by omega) (by omega) (by omega)]
      exact a3 j (by omega) h2
  · rw [t 1 (by omega) (by omega) (by omega)] at h1
    rw [cell _ (by rw [c1]; decide) (by rw [c1]; decide) (by rw [c1]; decide), cell _ (by rw [c2]; decide) (by rw [c2]; decide) (by rw [c2]; decide), cell _ (by rw [c3]; decide) (by rw [c3]; decide) (by rw [c3]; decide), t _ (by omega) (by omega) (by omega), t _ (by omega) (by omega) (by omega), t _ (by omega) (by omega) (by omega)]
    exact a4 j h1 h2
  · rw [t 280 (by omega) (by omega) (by omega)] at h1
    rw [cell _ (by rw [c4]; decide) (by rw [c4]; decide) (by rw [c4]; decide), t _ (by omega) (by omega) (by omega)]
    exact a5 j h1
  · unfold AGW; rw [t26, t 280 (by omega) (by omega) (by omega), t 1 (by omega) (by omega) (by omega)]; exact ⟨b.1, by omega, b.2.2⟩
theorem agc_bu {M M1 M2 M3 N : mm_M} {p : Nat} {k x y z z1 : Int} (hv : p = M.2.2 78 3) (e1 : M1 = wI M (s_p0 p 2) k.toNat (sI x)) (e2 : M2 = wI M1 (s_p0 p 3) k.toNat (sI z)) (e3 : M3 = wI M2 (s_p0 p 4) k.toNat (sI z1)) (e4 : N = wI M3 p 0 (sI y)) (hk : k = (M.1 p 0).toInt ∧ 0 ≤ k ∧ k < 6 ∧ y = k + 1 ∧ z = 0 ∧ z1 = 1) (hx : -2147483648 ≤ x ∧ x ≤ 2147483647) (q : Int × Int × Int × Int) (T : Nat → Int) (h : AGC M q T) : AGC N q (uT (uT (uT (uT T (8 + k).toNat x) (14 + k).toNat 0) (20 + k).toNat 1) 1 (k + 1)) := by
  subst hv
  unfold AGC at *
  rw [wx_r e4, wx_r e3, wx_r e2, wx_r e1]
  obtain ⟨⟨a1, a2, a3, a4, a5⟩, b, cp, cv⟩ := h
  obtain ⟨⟨c1, c2, c3, c4⟩, c5, c6⟩ := ag_cd cp cv
  have cell : ∀ i, s_c i ≠ 6 → ¬ (21 ≤ s_c i ∧ s_c i ≤ 23) → N.1 i = M.1 i := fun i h6 h2 => (wc_x e4 (fun w => h6 (by rw [w]; exact cp))).trans ((wc_x e3 (fun w => h2 (by rw [w, c3]; decide))).trans ((wc_x e2 (fun w => h2 (by rw [w, c2]; decide))).trans (wc_x e1 (fun w => h2 (by rw [w, c1]; decide)))))
  have ev : N.1 (M.2.2 78 4) = M.1 (M.2.2 78 4) := cell _ (by rw [cv]; decide) (by rw [cv]; decide)
  have kp : ∀ j, j ≠ 0 → N.1 (M.2.2 78 3) j = M.1 (M.2.2 78 3) j := fun j hj => (wx_ne e4 hj).trans (by rw [wc_x e3 (s_ne cp c3 (by decide)), wc_x e2 (s_ne cp c2 (by decide)), wc_x e1 (s_ne cp c1 (by decide))])
  have k1 : N.1 (s_p0 (M.2.2 78 3) 2) = M1.1 (s_p0 (M.2.2 78 3) 2) := (wc_x e4 (s_ne c1 cp (by decide))).trans ((wc_x e3 (s_ne c1 c3 (by decide))).trans (wc_x e2 (s_ne c1 c2 (by decide))))
  have k2 : N.1 (s_p0 (M.2.2 78 3) 3) = M2.1 (s_p0 (M.2.2 78 3) 3) := (wc_x e4 (s_ne c2 cp (by decide))).trans (wc_x e3 (s_ne c2 c3 (by decide)))
  have k3 : N.1 (s_p0 (M.2.2 78 3) 4) = M3.1 (s_p0 (M.2.2 78 3) 4) := wc_x e4 (s_ne c3 cp (by decide))
  have j2 : M1.1 (s_p0 (M.2.2 78 3) 3) = M.1 (s_p0 (M.2.2 78 3) 3) := wc_x e1 (s_ne c2 c1 (by decide))
  have j3 : M2.1 (s_p0 (M.2.2 78 3) 4) = M.1 (s_p0 (M.2.2 78 3) 4) := (wc_x e2 (s_ne c3 c2 (by decide))).trans (wc_x e1 (s_ne c3 c1 (by decide)))
  have t1 : uT (uT (uT (uT T (8 + k).toNat x) (14 + k).toNat 0) (20 + k).toNat 1) 1 (k + 1) 1 = k + 1 := uT_s
  have t : ∀ j : Nat, j ≠ 1 → j ≠ (8 + k).toNat → j ≠ (14 + k).toNat → j ≠ (20 + k).toNat → uT (uT (uT (uT T (8 + k).toNat x) (14 + k).toNat 0) (20 + k).toNat 1) 1 (k + 1) j = T j := fun j h1 h2 h3 h4 => by rw [uT_o h1, uT_o h4, uT_o h3, uT_o h2]
  have kT : k = T 1 := by rw [hk.1]; exact a1.1
  refine ⟨⟨⟨?_, ?_, ?_, ?_, ?_, ?_, ?_, ?_, ?_⟩, ⟨?_, ?_, ?_, ?_⟩, fun j h1 h2 => ?_, fun j h1 h2 => ?_, fun j h1 => ?_⟩, ?_, cp, cv⟩
  · rw [wx_at e4, sI_t (by omega), t1]; omega
  · rw [kp 1 (by decide), t 0 (by omega) (by omega) (by omega) (by omega)]; exact a1.2.1
  · rw [kp 6 (by decide), t 280 (by omega) (by omega) (by omega) (by omega)]; exact a1.2.2.1
  · rw [ev, t 26 (by omega) (by omega) (by omega) (by omega)]; exact a1.2.2.2.1
  · rw [ev, t 27 (by omega) (by omega) (by omega) (by omega)]; exact a1.2.2.2.2.1
  · rw [ev, t 28 (by omega) (by omega) (by omega) (by omega)]; exact a1.2.2.2.2.2.1
  · rw [ev, t 29 (by omega) (by omega) (by omega) (by omega)]; exact a1.2.2.2.2.2.2.1
  · rw [ev, t 30 (by omega) (by omega) (by omega) (by omega)]; exact a1.2.2.2.2.2.2.2.1
  · rw [ev, t 32 (by omega) (by omega) (by omega) (by omega)]; exact a1.2.2.2.2.2.2.2.2
  · rw [kp 7 (by decide)]; exact a2.1
  · rw [kp 8 (by decide)]; exact a2.2.1
  · rw [kp 9 (by decide)]; exact a2.2.2.1
  · rw [kp 10 (by decide)]; exact a2.2.2.2
  · rw [t 26 (by omega) (by omega) (by omega) (by omega)] at h1
    rw [cell _ (by rw [c5]; decide) (by rw [c5]; decide), cell _ (by rw [c6]; decide) (by rw [c6]; decide), t _ (by omega) (by omega) (by omega) (by omega), t _ (by omega) (by omega) (by omega) (by omega)]
    exact a3 j h1 h2
  · rw [t1] at h1
    rw [k1, k2, k3]
    by_cases w : j = k.toNat
    · rw [w, wx_at e1, wx_at e2, wx_at e3, sI_t hx, sI_t (by omega), sI_t (by omega)]
      refine ⟨?_, ?_, ?_⟩
      · rw [uT_o (by omega), uT_o (by omega), uT_o (by omega), show 8 + k.toNat = (8 + k).toNat by omega, uT_s]
      · rw [uT_o (by omega), uT_o (by omega), show 14 + k.toNat = (14 + k).toNat by omega, uT_s]; exact hk.2.2.2.2.1
      · rw [uT_o (by omega), show 20 + k.toNat = (20 + k).toNat by omega, uT_s]; exact hk.2.2.2.2.2
    · rw [wx_ne e1 w, wx_ne e2 w, wx_ne e3 w, j2, j3, t _ (by omega) (by omega) (by omega) (by omega), t _ (by omega) (by omega) (by omega) (by omega), t _ (by omega) (by omega) (by omega) (by omega)]
      exact a4 j (by omega) h2
  · rw [t 280 (by omega) (by omega) (by omega) (by omega)] at h1
    rw [cell _ (by rw [c4]; decide) (by rw [c4]; decide), t _ (by omega) (by omega) (by omega) (by omega)]
    exact a5 j h1
  · unfold AGW; rw [t1, t 280 (by omega) (by omega) (by omega) (by omega), t 26 (by omega) (by omega) (by omega) (by omega)]; exact ⟨b.1, b.2.1, by omega⟩
/-! flags, marks of the class -/
section RX
variable (f : Nat → Int) (n : Int)
theorem fgc_1 {a i p k x : Int} {M M2 N : mm_M} (h : ∀ q T, AGC M q T → AGC M2 q T) (w : ∀ q T, AGC M2 q T → AGC N q (uT T (41 + k).toNat x)) {a0 : Int} (hp : b01 (PO n i a0 p) = 1) (h0 : a0 = 0) (ht : tkF f n p = 1005) (hx : ¬ a = 0 ∨ x = tkF f n (nxF f n i)) : b01 (CT AGC a M N (fgC f n k i)) = 1 := b01_i (by
  obtain ⟨rfl, _⟩ := po_0 hp h0
  by_cases z : a = 0
  · refine Or.inr (fun q T y => ?_)
    unfold fgC
    rw [if_pos ht, ← hx.resolve_left (fun u => u z)]
    exact w q T (h q T y)
  · exact Or.inl z)
theorem fgc_2 {i p k y : Int} {v : Nat} {M M2 N : mm_M} (a : Int) (h : ∀ q T, AGC M q T → AGC M2 q T) (w : ∀ q T, AGC M2 q T → AGC N q (uT T 27 (orI y (pw2 k)))) (hv : v = M2.2.2 78 4) (hy : y = (M2.1 v 3).toInt) {a0 : Int} (hp : b01 (PO n i a0 p) = 1) (h0 : a0 = 0) (ht : tkF f n p = 1007) : b01 (CT AGC a M N (fgC f n k i)) = 1 := b01_i (Or.inr (fun q T z => by
  obtain ⟨rfl, _⟩ := po_0 hp h0
  have z2 := h q T z
  have e : y = T 27 := by rw [hy, hv]; exact z2.1.1.2.2.2.2.1
  unfold fgC
  rw [if_neg (by omega), if_pos ht, ← e]
  exact w q T z2))
theorem fgc_3 {i p k y : Int} {v : Nat} {M M2 N : mm_M} (a : Int) (h : ∀ q T, AGC M q T → AGC M2 q T) (w : ∀ q T, AGC M2 q T → AGC N q (uT T 28 (orI y (pw2 k)))) (hv : v = M2.2.2 78 4) (hy : y = (M2.1 v 4).toInt) {a0 : Int} (hp : b01 (PO n i a0 p) = 1) (h0 : a0 = 0) (ht : tkF f n p = 1012) : b01 (CT AGC a M N (fgC f n k i)) = 1 := b01_i (Or.inr (fun q T z => by
  obtain ⟨rfl, _⟩ := po_0 hp h0
  have z2 := h q T z
  have e : y = T 28 := by rw [hy, hv]; exact z2.1.1.2.2.2.2.2.1
  unfold fgC
  rw [if_neg (by omega), if_neg (by omega), if_pos ht, ← e]
  exact w q T z2))
theorem fgc_0 {A : mm_M → Int × Int × Int × Int → (Nat → Int) → Prop} {i p k : Int} {M N : mm_M} (a : Int) (h : ∀ q T, A M q T → A N q T) {a0 : Int} (hp : b01 (PO n i a0 p) = 1) (h0 : a0 = 0) (ht : ¬ tkF f n p = 1005 ∧ ¬ tkF f n p = 1007 ∧ ¬ tkF f n p = 1012) : b01 (CT A a M N (fgC f n k i)) = 1 := b01_i (Or.inr (fun q T z => by
  obtain ⟨rfl, _⟩ := po_0 hp h0
  unfold fgC
  rw [if_neg ht.1, if_neg ht.2.1, if_neg ht.2.2]
  exact h q T z))
theorem mkc_1 {A : mm_M → Int × Int × Int × Int → (Nat → Int) → Prop} {a i p k x : Int} {M M2 N : mm_M} (h : ∀ q T, A M q T → A M2 q T) (w : ∀ q T, A M2 q T → A N q (uT T (14 + k).toNat x)) {a0 : Int} (hp : b01 (PO n i a0 p) = 1) (h0 : a0 = 0) (ht : tkF f n p = 1002) (hx : ¬ a = 0 ∨ x = tkF f n (nxF f n i)) : b01 (CT A a M N (mkC f n k i)) = 1 := b01_i (by
  obtain ⟨rfl, _⟩ := po_0 hp h0
  by_cases z : a = 0
  · refine Or.inr (fun q T y => ?_)
    unfold mkC
    rw [if_pos ht, ← hx.resolve_left (fun u => u z)]
    exact w q T (h q T y)
  · exact Or.inl z)
theorem mkc_2 {A : mm_M → Int × Int × Int × Int → (Nat → Int) → Prop} {a i p k x : Int} {M M2 N : mm_M} (h : ∀ q T, A M q T → A M2 q T) (w : ∀ q T, A M2 q T → A N q (uT T (20 + k).toNat x)) {a0 : Int} (hp : b01 (PO n i a0 p) = 1) (h0 : a0 = 0) (ht : tkF f n p = 1013) (hx : ¬ a = 0 ∨ x = tkF f n (nxF f n i)) : b01 (CT A a M N (mkC f n k i)) = 1 := b01_i (by
  obtain ⟨rfl, _⟩ := po_0 hp h0
  by_cases z : a = 0
  · refine Or.inr (fun q T y => ?_)
    unfold mkC
    rw [if_neg (by omega), if_pos ht, ← hx.resolve_left (fun u => u z)]
    exact w q T (h q T y)
  · exact Or.inl z)
theorem mkc_0 {A : mm_M → Int × Int × Int × Int → (Nat → Int) → Prop} {i p k : Int} {M N : mm_M} (a : Int) (h : ∀ q T, A M q T → A N q T) {a0 : Int} (hp : b01 (PO n i a0 p) = 1) (h0 : a0 = 0) (ht : ¬ tkF f n p = 1002 ∧ ¬ tkF f n p = 1013) : b01 (CT A a M N (mkC f n k i)) = 1 := b01_i (Or.inr (fun q T z => by
  obtain ⟨rfl, _⟩ := po_0 hp h0
  unfold mkC
  rw [if_neg ht.1, if_neg ht.2]
  exact h q T z))
end RX
/-! lines of the class -/
def LWQ (q : Int × Int × Int × Int) (T : Nat → Int) : Prop := ((q.1 = q.2.1 ∧ T 2 = 0) ∨ (T 2 = 1 ∧ q.1 = T 4 ∧ q.2.1 = T 4 + T 6)) ∧ ((q.2.2.1 = q.2.2.2 ∧ T 3 = 0) ∨ (T 3 = 1 ∧ q.2.2.1 = T 5 ∧ q.2.2.2 = T 5 + T 7))
def AGX (M : mm_M) (T : Nat → Int) : Prop := ∃ q, AGC M q T ∧ LWQ q T
def AGY (M : mm_M) (_ : Int × Int × Int × Int) (T : Nat → Int) : Prop := AGX M T
theorem ct_x {a : Int} {M N : mm_M} {g : (Nat → Int) → Nat → Int} (h : b01 (CT AGC a M N g) = 1) (e : ∀ T j, 2 ≤ j → j ≤ 7 → g T j = T j) : b01 (CT AGY a M N g) = 1 := b01_i (by
  by_cases c : a = 0
  · refine Or.inr (fun _ T x => ?_)
    obtain ⟨q, x1, x2⟩ := x
    refine ⟨q, (b01_e h).resolve_left (fun w => w c) q T x1, ?_⟩
    unfold LWQ
    rw [e T 2 (by decide) (by decide), e T 3 (by decide) (by decide), e T 4 (by decide) (by decide), e T 5 (by decide) (by decide), e T 6 (by decide) (by decide), e T 7 (by decide) (by decide)]
    exact x2
  · exact Or.inl c)
theorem emT_o (c : Int) (T : Nat → Int) {j : Nat} (h0 : 0 ≤ T 280) (h : j < 280) : emT c T j = T j := by unfold emT; rw [uT_o (by omega), uT_o (by omega)]
theorem emL_o : ∀ (L : List Int) (T : Nat → Int) {j : Nat}, 0 ≤ T 280 → j < 280 → emL L T j = T j
  | [], _, _, _, _ => rfl
  | c :: L, T, j, h0, h => (emL_o L (emT c T) (by unfold emT; rw [uT_s]; omega) h).trans (emT_o c T h0 h)
theorem lpT_k {q : Int → Bool} {st : Int → Int × Int × Int} {GT : Int → (Nat → Int) → Nat → Int} {j : Nat} (hG : ∀ i T, GT i T j = T j) : ∀ (k : Nat) (i : Int) (T : Nat → Int), lpT q st GT k i T j = T j
  | 0, _, _ => rfl
  | k + 1, i, T => by
    rw [lpT]
    repeat' split
    · rw [lpT_k hG k _ _]; exact hG i T
    · rfl
    · rfl
section RX5
variable (f : Nat → Int) (n : Int)
theorem fgC_k {k : Int} (hk : 0 ≤ k) {j : Nat} (hj : j < 27) (i : Int) (T : Nat → Int) : fgC f n k i T j = T j := by
  unfold fgC
  repeat' split
  · exact uT_o (by omega)
  · exact uT_o (by omega)
  · exact uT_o (by omega)
  · rfl
theorem fgT_k {k : Int} (hk : 0 ≤ k) {j : Nat} (hj : j < 27) (i : Int) (T : Nat → Int) : fgT f n k i T j = T j := lpT_k (fun i T => fgC_k f n hk hj i T) _ _ _
theorem mkC_k {k : Int} (hk : 0 ≤ k) {j : Nat} (hj : j < 14 ∨ 26 ≤ j) (hk6 : k < 6) (i : Int) (T : Nat → Int) : mkC f n k i T j = T j := by
  unfold mkC
  repeat' split
  · exact uT_o (by omega)
  · exact uT_o (by omega)
  · rfl
theorem mkT_k {k : Int} (hk : 0 ≤ k) {j : Nat} (hj : j < 14 ∨ 26 ≤ j) (hk6 : k < 6) (i : Int) (T : Nat → Int) : mkT f n k i T j = T j := lpT_k (fun i T => mkC_k f n hk hj hk6 i T) _ _ _
theorem kiB_k {k p : Int} (hk : 0 ≤ k) {j : Nat} (hj : j < 26) (T : Nat → Int) : kiB f n k p T j = T j := by
  unfold kiB; rw [uT_o (by omega), uT_o (by omega), uT_o (by omega)]
theorem buB_k {k p : Int} (hk : 0 ≤ k) {j : Nat} (hj : 2 ≤ j ∧ j < 8) (T : Nat → Int) : buB f n k p T j = T j := by
  unfold buB; rw [uT_o (by omega), uT_o (by omega), uT_o (by omega), uT_o (by omega)]
theorem kiC_k {k : Int} (hk : 0 ≤ k) (i : Int) (T : Nat → Int) (j : Nat) (hj : 2 ≤ j) (h7 : j ≤ 7) : kiC f n k i T j = T j := by
  unfold kiC; rw [fgT_k f n hk (by omega), kiB_k f n hk (by omega)]
theorem buC_k {k : Int} (hk : 0 ≤ k ∧ k < 6) (i : Int) (T : Nat → Int) (j : Nat) (hj : 2 ≤ j) (h7 : j ≤ 7) : buC f n k i T j = T j := by
  unfold buC; rw [mkT_k f n hk.1 (by omega) hk.2, buB_k f n hk.1 (by omega)]
theorem kib_x {A : mm_M → Int × Int × Int × Int → (Nat → Int) → Prop} {a k x p2 : Int} {M M3 N : mm_M} (h : ∀ q T, A M q T → A M3 q T) (w : ∀ q T, A M3 q T → A N q (uT (uT (uT T (33 + k).toNat x) (41 + k).toNat 0) 26 (k + 1))) (hx : ¬ a = 0 ∨ x = tkF f n p2) : b01 (CT A a M N (kiB f n k p2)) = 1 := b01_i (by
  by_cases z : a = 0
  · refine Or.inr (fun q T y => ?_)
    unfold kiB
    rw [← hx.resolve_left (fun u => u z)]
    exact w q T (h q T y)
  · exact Or.inl z)
theorem bub_x {A : mm_M → Int × Int × Int × Int → (Nat → Int) → Prop} {a k x p2 : Int} {M M3 N : mm_M} (h : ∀ q T, A M q T → A M3 q T) (w : ∀ q T, A M3 q T → A N q (uT (uT (uT (uT T (8 + k).toNat x) (14 + k).toNat 0) (20 + k).toNat 1) 1 (k + 1))) (hx : ¬ a = 0 ∨ x = tkF f n p2) : b01 (CT A a M N (buB f n k p2)) = 1 := b01_i (by
  by_cases z : a = 0
  · refine Or.inr (fun q T y => ?_)
    unfold buB
    rw [← hx.resolve_left (fun u => u z)]
    exact w q T (h q T y)
  · exact Or.inl z)
/-- AGC doesn't look at places 2 to 7 -/
theorem agc_27 {M : mm_M} {q : Int × Int × Int × Int} {T T' : Nat → Int} (h : AGC M q T) (e : ∀ j, (j < 2 ∨ 8 ≤ j) → T' j = T j) : AGC M q T' := by
  obtain ⟨⟨a1, a2, a3, a4, a5⟩, b, cp, cv⟩ := h
  refine ⟨⟨⟨?_, ?_, ?_, ?_, ?_, ?_, ?_, ?_, ?_⟩, a2, fun k h1 h2 => ?_, fun k h1 h2 => ?_, fun i hi => ?_⟩, ?_, cp, cv⟩
  · rw [e 1 (by omega)]; exact a1.1
  · rw [e 0 (by omega)]; exact a1.2.1
  · rw [e 280 (by omega)]; exact a1.2.2.1
  · rw [e 26 (by omega)]; exact a1.2.2.2.1
  · rw [e 27 (by omega)]; exact a1.2.2.2.2.1
  · rw [e 28 (by omega)]; exact a1.2.2.2.2.2.1
  · rw [e 29 (by omega)]; exact a1.2.2.2.2.2.2.1
  · rw [e 30 (by omega)]; exact a1.2.2.2.2.2.2.2.1
  · rw [e 32 (by omega)]; exact a1.2.2.2.2.2.2.2.2
  · rw [e 26 (by omega)] at h1; rw [e _ (by omega), e _ (by omega)]; exact a3 k h1 h2
  · rw [e 1 (by omega)] at h1; rw [e _ (by omega), e _ (by omega), e _ (by omega)]; exact a4 k h1 h2
  · rw [e 280 (by omega)] at hi; rw [e _ (by omega)]; exact a5 i hi
  · unfold AGW; rw [e 280 (by omega), e 26 (by omega), e 1 (by omega)]; exact b
theorem lwC_o {l : Nat} (hl : l ≤ 1) (L : List Int) (T : Nat → Int) {j : Nat} (h : j < 2 ∨ 8 ≤ j) : lwC l L T j = emL L T j := by
  unfold lwC; rw [uT_o (by omega), uT_o (by omega), uT_o (by omega)]
/-- a law's line: its codes between its two marks -/
theorem law_x {a x y : Int} {p p' : Nat} {M M2 M3 M4 N : mm_M} {L : List Int} (l : Nat) (hl : l = 0 ∨ l = 1) (h : ∀ q T, AGC M q T → AGC M2 q T) (hp : p = M2.2.2 78 3) (e3 : M3 = wI M2 p (7 + 2 * l) (sI x)) (hx : (-2147483648 ≤ x ∧ x ≤ 2147483647) ∧ x = (M2.1 p 6).toInt) (h4 : b01 (CL AGC a M3 M4 L) = 1) (hp' : p' = M4.2.2 78 3) (eN : N = wI M4 p' (8 + 2 * l) (sI y)) (hy : (-2147483648 ≤ y ∧ y ≤ 2147483647) ∧ y = (M4.1 p' 6).toInt) : b01 (CT AGY a M N (lwC l L)) = 1 := b01_i (by
  by_cases c : a = 0
  · refine Or.inr (fun _ T z => ?_)
    obtain ⟨q, z1, z2⟩ := z
    have k2 := h q T z1
    have x0 : x = T 280 := by rw [hx.2, hp]; exact k2.1.1.2.2.1
    have o : ∀ {j : Nat}, j < 280 → emL L T j = T j := fun h => emL_o L T k2.2.1.1 h
    have w2 : ∀ j : Nat, 2 ≤ j → j ≤ 7 → j ≠ 2 + l → j ≠ 4 + l → j ≠ 6 + l → lwC l L T j = T j := fun j g1 g2 g3 g4 g5 => by
      unfold lwC; rw [uT_o g5, uT_o g4, uT_o g3, o (by omega)]
    have v2 : lwC l L T (2 + l) = 1 := by unfold lwC; rw [uT_o (by omega), uT_o (by omega), uT_s]
    have v4 : lwC l L T (4 + l) = T 280 := by unfold lwC; rw [uT_o (by omega), uT_s]
    have v6 : lwC l L T (6 + l) = emL L T 280 - T 280 := by unfold lwC; rw [uT_s]
    rcases hl with rfl | rfl
    · have k3 : AGC M3 (x, q.2) T := agc_p7 hp e3 hx.1 q T k2
      have k4 := (b01_e h4).resolve_left (fun w => w c) _ _ k3
      have y0 : y = emL L T 280 := by rw [hy.2, hp']; exact k4.1.1.2.2.1
      have kN := agc_p8 hp' eN hy.1 _ _ k4
      refine ⟨(x, y, q.2.2), agc_27 kN (fun j hj => lwC_o (by decide) L T hj), Or.inr ⟨v2, by rw [v4]; exact x0, by rw [v4, v6]; show y = _; omega⟩, ?_⟩
      rw [w2 3 (by decide) (by decide) (by decide) (by decide) (by decide), w2 5 (by decide) (by decide) (by decide) (by decide) (by decide), w2 7 (by decide) (by decide) (by decide) (by decide) (by decide)]
      exact z2.2
    · have k3 : AGC M3 (q.1, q.2.1, x, q.2.2.2) T := agc_p9 hp e3 hx.1 q T k2
      have k4 := (b01_e h4).resolve_left (fun w => w c) _ _ k3
      have y0 : y = emL L T 280 := by rw [hy.2, hp']; exact k4.1.1.2.2.1
      have kN := agc_p10 hp' eN hy.1 _ _ k4
      refine ⟨(q.1, q.2.1, x, y), agc_27 kN (fun j hj => lwC_o (by decide) L T hj), ?_, Or.inr ⟨v2, by rw [v4]; exact x0, by rw [v4, v6]; show y = _; omega⟩⟩
      rw [w2 2 (by decide) (by decide) (by decide) (by decide) (by decide), w2 4 (by decide) (by decide) (by decide) (by decide) (by decide), w2 6 (by decide) (by decide) (by decide) (by decide) (by decide)]
      exact z2.1
  · exact Or.inl c)
theorem agy_78 {M N : mm_M} (h : ∀ q T, AGC M q T → AGC N q T) : ∀ q T, AGY M q T → AGY N q T := fun _ T ⟨q, x, y⟩ => ⟨q, h q T x, y⟩
/-- a line's end -/
theorem ln_x {a x : Int} {p : Nat} {M M1 N : mm_M} (h : ∀ q T, AGC M q T → AGC M1 q T) (hp : p = M1.2.2 78 3) (e : N = wI M1 p 1 (sI x)) (hx : (-2147483648 ≤ x ∧ x ≤ 2147483647) ∧ x = (M1.1 p 1).toInt + 1) : b01 (CT AGY a M N (fun T => uT T 0 (T 0 + 1))) = 1 := b01_i (Or.inr (fun _ T z => by
  obtain ⟨q, z1, z2⟩ := z
  have k1 := h q T z1
  have x0 : x = T 0 + 1 := by rw [hx.2, hp]; have := k1.1.1.2.1; omega
  show AGX N (uT T 0 (T 0 + 1))
  rw [← x0]
  refine ⟨q, agc_p1 hp e hx.1 q T k1, ?_⟩
  unfold LWQ
  rw [uT_o (by decide), uT_o (by decide), uT_o (by decide), uT_o (by decide), uT_o (by decide), uT_o (by decide)]
  exact z2))
/-! lines one by one -/
theorem li_c1 {A : mm_M → Int × Int × Int × Int → (Nat → Int) → Prop} {a i p k b : Int} {M N : mm_M} {g : (Nat → Int) → Nat → Int} (h : b01 (CT A a M N g) = 1) {a0 : Int} (hp : b01 (PO n i a0 p) = 1) (h0 : a0 = 0) (hg : (tkF f n p = 1003 ∧ g = kiC f n k i) ∨ (tkF f n p = 1009 ∧ g = buC f n b i) ∨ (tkF f n p = 1010 ∧ g = waC f n i) ∨ (tkF f n p = 1011 ∧ g = leC f n i)) : b01 (CT A a M N (liC f n k b i)) = 1 := ct_e h (fun _ T => by
  obtain ⟨rfl, _⟩ := po_0 hp h0
  unfold liC
  rcases hg with ⟨t, e⟩ | ⟨t, e⟩ | ⟨t, e⟩ | ⟨t, e⟩
  · rw [if_pos t, e]
  · rw [if_neg (by omega), if_pos t, e]
  · rw [if_neg (by omega), if_neg (by omega), if_pos t, e]
  · rw [if_neg (by omega), if_neg (by omega), if_neg (by omega), if_pos t, e])
/-- all lines: from s with nothing on -/
def LX (A : mm_M → Int × Int × Int × Int → (Nat → Int) → Prop) (f : Nat → Int) (n a s i k b : Int) (MB M : mm_M) : Prop := ¬ a = 0 ∨ ∃ g : (Nat → Int) → Nat → Int, (∀ T, mqC f n s 0 0 T = mqC f n i k b (g T)) ∧ ∀ q T, A MB q T → A M q (g T)
theorem lx_i {A : mm_M → Int × Int × Int × Int → (Nat → Int) → Prop} (a s k b : Int) (M : mm_M) (hk : ¬ a = 0 ∨ (k = 0 ∧ b = 0)) : b01 (LX A f n a s s k b M M) = 1 := b01_i (by
  by_cases z : a = 0
  · obtain ⟨rfl, rfl⟩ := hk.resolve_left (fun w => w z)
    exact Or.inr ⟨fun T => T, fun T => rfl, fun _ _ h => h⟩
  · exact Or.inl z)
theorem lx_p {A : mm_M → Int × Int × Int × Int → (Nat → Int) → Prop} {a1 a2 a3 s i k b k' b' p1 x1 x2 x3 y2 y3 l1 l2 : Int} {MB M M2 N : mm_M} (h : b01 (LX A f n a1 s i k b MB M) = 1) (hp : b01 (PO n i a1 p1) = 1) (ht : ¬ tkF f n p1 = 3001) (hr : b01 (RR (liP f n k b i) a1 x1 a2 x2 y2) = 1) (h2 : b01 (CT A a2 M M2 (liC f n k b i)) = 1) (hr3 : b01 (RR (exP f n 2059 (liP f n k b i).2.2) a2 x2 a3 x3 y3) = 1) (h3 : b01 (CT A a3 M2 N (fun T => uT T 0 (T 0 + 1))) = 1) (hc : b01 (CK a2 k' b' l2 (inc (tkF f n i) 1003 k) (inc (tkF f n i) 1009 b) l1) = 1) : b01 (LX A f n a3 s (exP f n 2059 (liP f n k b i).2.2).2.2 k' b' MB N) = 1 := b01_i (by
  by_cases z : a3 = 0
  · right
    have z2 := rr_z hr3 z
    have z1 := rr_z hr z2
    obtain ⟨rfl, i0, i1⟩ := po_0 hp z1
    obtain ⟨g, e1, e2⟩ := (b01_e h).resolve_left (fun w => w z1)
    have r1 := (rr_v hr z2).1
    have r3 := (rr_v hr3 z).1
    have c := (b01_e hc).resolve_left (fun w => w z2)
    have lp : lnP f n k b p1 = exP f n 2059 (liP f n k b p1).2.2 := by unfold lnP sqP; rw [if_pos r1]
    refine ⟨fun T => lnC f n k b p1 (g T), fun T => ?_, fun q T x => ?_⟩
    · rw [e1 T, mqC_y f n ⟨i0, i1⟩ ht (by rw [lp]; exact r3), lp, c.1, c.2.1]
    · have y := (b01_e h2).resolve_left (fun w => w z2) q _ (e2 q T x)
      exact (b01_e h3).resolve_left (fun w => w z) q _ y
  · exact Or.inl z)
theorem lx_z {A : mm_M → Int × Int × Int × Int → (Nat → Int) → Prop} {a s i k b p : Int} {MB M : mm_M} (h : b01 (LX A f n a s i k b MB M) = 1) (hp : b01 (PO n i a p) = 1) (hx : ¬ a = 0 ∨ tkF f n p = 3001) : b01 (CT A a MB M (mqC f n s 0 0)) = 1 := b01_i (by
  by_cases z : a = 0
  · right
    obtain ⟨rfl, i0, i1⟩ := po_0 hp z
    obtain ⟨g, e1, e2⟩ := (b01_e h).resolve_left (fun w => w z)
    intro q T x
    rw [e1 T, mqC_n f n (hx.resolve_left (fun w => w z))]
    exact e2 q T x
  · exact Or.inl z)
/-- what the text tells stands there -/
def RDX (A : mm_M → Int × Int × Int × Int → (Nat → Int) → Prop) (a : Int) (f : Nat → Int) (n : Int) (N : mm_M) : Prop := ¬ a = 0 ∨ ∃ q, A N q (rdC f n)
theorem rdx_i {A : mm_M → Int × Int × Int × Int → (Nat → Int) → Prop} {a : Int} {MB M : mm_M} (h : b01 (CT A a MB M (mqC f n (hdP f n).2.2 0 0)) = 1) (q : Int × Int × Int × Int) (h0 : ¬ a = 0 ∨ A MB q T0) : b01 (RDX A a f n M) = 1 := b01_i (by
  by_cases z : a = 0
  · exact Or.inr ⟨q, (b01_e h).resolve_left (fun w => w z) q T0 (h0.resolve_left (fun w => w z))⟩
  · exact Or.inl z)
end RX5
theorem lk_z {F : Int → Int × Int × Int} {n s i c m a b a' b' p' : Int} (h : b01 (LK F n s i c m a b a' b' p') = 1) (h0 : a' = 0) : a = 0 := by
  rcases b01_e h with q | q | q | q <;> omega
/-! what a reader writes: its own cells, the plan's, the stock's -/
def RCL (p v : Nat) : List Nat := [78, p, s_p0 p 2, s_p0 p 3, s_p0 p 4, s_p0 p 5, v, s_p0 v 1, s_p0 v 2]
def RFX (M N : mm_M) : Prop := N.2.2 = M.2.2 ∧ (∀ i, i ≠ 78 → N.2.1 i = M.2.1 i) ∧ ∀ i, i ∉ RCL (M.2.2 78 3) (M.2.2 78 4) → N.1 i = M.1 i
theorem rfx_r (M : mm_M) : b01 (RFX M M) = 1 := b01_i ⟨rfl, fun _ _ => rfl, fun _ _ => rfl⟩
theorem rfx_t {M N O : mm_M} (h : b01 (RFX M N) = 1) (h2 : b01 (RFX N O) = 1) : b01 (RFX M O) = 1 := by
  have h := b01_e h
  have h2 := b01_e h2
  refine b01_i ⟨h2.1.trans h.1, fun i hi => (h2.2.1 i hi).trans (h.2.1 i hi), fun i hi => (h2.2.2 i ?_).trans (h.2.2 i hi)⟩
  rw [h.1]; exact hi
theorem rfx_w {M N O : mm_M} {c k : Nat} {x : Int32} (h : b01 (RFX M N) = 1) (e : O = wI N c k x) (hc : c ∈ RCL (M.2.2 78 3) (M.2.2 78 4)) : b01 (RFX M O) = 1 := by
  have h := b01_e h
  exact b01_i ⟨(show O.2.2 = N.2.2 by rw [e]).trans h.1, fun i hi => (show O.2.1 i = N.2.1 i by rw [e]).trans (h.2.1 i hi), fun i hi => (wc_x e (fun z => hi (by rw [z]; exact hc))).trans (h.2.2 i hi)⟩
theorem rfx_i {M N O : mm_M} {c k : Nat} {x : Int32} (h : b01 (RFX M N) = 1) (e : O = wI N c k x) (hc : c = 78) : b01 (RFX M O) = 1 := rfx_w h e (by rw [hc]; simp [RCL])
theorem rfx_p {M N O : mm_M} {c k p : Nat} {x : Int32} (h : b01 (RFX M N) = 1) (e : O = wI N c k x) (hp : p = N.2.2 78 3) (hc : c ∈ ([p, s_p0 p 2, s_p0 p 3, s_p0 p 4, s_p0 p 5] : List Nat)) : b01 (RFX M O) = 1 := by
  have z := b01_e h
  refine rfx_w h e ?_
  have : N.2.2 78 3 = M.2.2 78 3 := by rw [z.1]
  rw [hp, this] at hc
  simp only [RCL, List.mem_cons, List.not_mem_nil, or_false] at hc ⊢
  rcases hc with q | q | q | q | q <;> simp [q]
theorem rfx_v {M N O : mm_M} {c k v : Nat} {x : Int32} (h : b01 (RFX M N) = 1) (e : O = wI N c k x) (hp : v = N.2.2 78 4) (hc : c ∈ ([v, s_p0 v 1, s_p0 v 2] : List Nat)) : b01 (RFX M O) = 1 := by
  have z := b01_e h
  refine rfx_w h e ?_
  have : N.2.2 78 4 = M.2.2 78 4 := by rw [z.1]
  rw [hp, this] at hc
  simp only [RCL, List.mem_cons, List.not_mem_nil, or_false] at hc ⊢
  rcases hc with q | q | q <;> simp [q]
theorem rfx_F {M N O : mm_M} (h : b01 (RFX M N) = 1) (e : FR [78] N O) : b01 (RFX M O) = 1 :=
  rfx_t h (b01_i ⟨e.2.1, fun i hi => funext fun k => e.2.2 i k (by simpa using hi), fun i hi => funext fun k => e.1 i k (fun z => hi (by simp at z; rw [z]; simp [RCL]))⟩)
/-- one cell alone -/
def ONE (M N : mm_M) (c : Nat) : Prop := N.2 = M.2 ∧ ∀ i, i ≠ c → N.1 i = M.1 i
theorem one_r (M : mm_M) (c : Nat) : ONE M M c := ⟨rfl, fun _ _ => rfl⟩
theorem one_w {M N O : mm_M} {c k : Nat} {x : Int32} (h : ONE M N c) (e : O = wI N c k x) : ONE M O c := ⟨(show O.2 = N.2 by rw [e]).trans h.1, fun i hi => (wc_x e hi).trans (h.2 i hi)⟩
/-- the reader's whole work: all but its cells and those of p, v -/
def RDF (M N : mm_M) (p v : Nat) : Prop := ((∀ i, i ≠ 78 → N.2.2 i = M.2.2 i) ∧ ∀ i, i ≠ 78 → i ≠ 79 → i ≠ 80 → N.2.1 i = M.2.1 i) ∧ (∀ i, i ∉ RCL p v → i ≠ 79 → i ≠ 80 → N.1 i = M.1 i) ∧ N.2.2 78 3 = p ∧ N.2.2 78 4 = v
/-- what stands as the first token is come to -/
theorem rd_0 {M Ma Mb Mc Md Me Mf Mg Mh : mm_M} {p v : Nat} (ea : Ma = wP M 78 3 p) (eb : Mb = wP Ma 78 4 v) (hc : b01 (ONE Mb Mc p) = 1) (hd : b01 (ONE Mc Md v) = 1) (he : FR [79, 80] Md Me) {x y z : Int32} {i j k : Nat} (ef : Mf = wI Me 78 i x) (eg : Mg = wI Mf 78 j y) (eh : Mh = wI Mg 78 k z) (cp : s_c p = 6) (cv : s_c v = 8) (zp : (Mc.1 p 0).toInt = 0 ∧ (Mc.1 p 1).toInt = 0 ∧ (Mc.1 p 6).toInt = 0 ∧ (Mc.1 p 7).toInt = 0 ∧ (Mc.1 p 8).toInt = 0 ∧ (Mc.1 p 9).toInt = 0 ∧ (Mc.1 p 10).toInt = 0) (zv : (Md.1 v 0).toInt = 0 ∧ (Md.1 v 3).toInt = 0 ∧ (Md.1 v 4).toInt = 0 ∧ (Md.1 v 5).toInt = 0 ∧ (Md.1 v 6).toInt = 0 ∧ (Md.1 v 8).toInt = 0) : AGX Mh (fun _ => 0) ∧ RDF M Mh p v := by
  have hc := b01_e hc
  have hd := b01_e hd
  have npv : p ≠ v := s_ne cp cv (by decide)
  have k1 : ∀ i, i ≠ 78 → i ≠ 79 → i ≠ 80 → Mh.1 i = Md.1 i := fun i h1 h2 h3 => (wc_x eh h1).trans ((wc_x eg h1).trans ((wc_x ef h1).trans (funext fun k => he.1 i k (by simp; exact ⟨h2, h3⟩))))
  have r1 : Mh.2.2 = Mb.2.2 := (wx_r eh).trans ((wx_r eg).trans ((wx_r ef).trans (he.2.1.trans ((show Md.2.2 = Mc.2.2 by rw [hd.1]).trans (show Mc.2.2 = Mb.2.2 by rw [hc.1])))))
  have rp : Mh.2.2 78 3 = p := by rw [r1, eb, ea]; show u2 (u2 M.2.2 78 3 p) 78 4 v 78 3 = p; rw [u2_b _ _ (by decide)]; exact u2_s _ _ _ _
  have rv : Mh.2.2 78 4 = v := by rw [r1, eb]; show u2 Ma.2.2 78 4 v 78 4 = v; exact u2_s _ _ _ _
  have n78 : ∀ {i c : Nat}, s_c i = c → c ≠ 7 → c ≠ 27 → c ≠ 28 → i ≠ 78 := fun {i c} h h7 _ _ z => h7 (by rw [← h, z]; rfl)
  have ep : Mh.1 p = Mc.1 p := (k1 p (s_ne (c := 6) (d := 7) cp rfl (by decide)) (fun z => by rw [z] at cp; exact absurd cp (by decide)) (fun z => by rw [z] at cp; exact absurd cp (by decide))).trans (hd.2 p npv)
  have ev : Mh.1 v = Md.1 v := k1 v (s_ne (c := 8) (d := 7) cv rfl (by decide)) (fun z => by rw [z] at cv; exact absurd cv (by decide)) (fun z => by rw [z] at cv; exact absurd cv (by decide))
  refine ⟨⟨(0, 0, 0, 0), ?_, Or.inl ⟨rfl, rfl⟩, Or.inl ⟨rfl, rfl⟩⟩, ⟨fun i hi => ?_, fun i hi h9 h80 => ?_⟩, fun i hi h9 h80 => ?_, rp, rv⟩
  · unfold AGC
    rw [rp, rv]
    refine ⟨⟨?_, ?_, fun k h1 _ => absurd (show (k : Int) < 0 from h1) (by omega), fun k h1 _ => absurd (show (k : Int) < 0 from h1) (by omega), fun k h1 => absurd (show (k : Int) < 0 from h1) (by omega)⟩, ⟨by decide, by decide, by decide⟩, cp, cv⟩
    · rw [ep, ev]; exact ⟨zp.1, zp.2.1, zp.2.2.1, zv.1, zv.2.1, zv.2.2.1, zv.2.2.2.1, zv.2.2.2.2.1, zv.2.2.2.2.2⟩
    · rw [ep]; exact ⟨zp.2.2.2.1, zp.2.2.2.2.1, zp.2.2.2.2.2.1, zp.2.2.2.2.2.2⟩
  · rw [r1, eb, ea]; funext b; show u2 (u2 M.2.2 78 3 p) 78 4 v i b = _; rw [u2_a _ _ hi, u2_a _ _ hi]
  · have q : Mh.2.1 i = Md.2.1 i := by
      rw [eh, eg, ef]; exact funext fun k => he.2.2 i k (by simp; exact ⟨h9, h80⟩)
    rw [q, hd.1, hc.1, eb, ea]
  · have h78 : i ≠ 78 := fun z => hi (by rw [z]; simp [RCL])
    have hp : i ≠ p := fun z => hi (by rw [z]; simp [RCL])
    have hv : i ≠ v := fun z => hi (by rw [z]; simp [RCL])
    rw [k1 i h78 h9 h80, hd.2 i hv, hc.2 i hp, eb, ea]
theorem rdf_t {M N O : mm_M} {p v : Nat} (h : RDF M N p v) (h2 : b01 (RFX N O) = 1) : b01 (RDF M O p v) = 1 := by
  have h2 := b01_e h2
  obtain ⟨⟨a, b⟩, c, d, e⟩ := h
  refine b01_i ⟨⟨fun i hi => (by rw [h2.1]; exact a i hi), fun i hi h9 h80 => (h2.2.1 i hi).trans (b i hi h9 h80)⟩, fun i hi h9 h80 => (h2.2.2 i (by rw [d, e]; exact hi)).trans (c i hi h9 h80), by rw [h2.1]; exact d, by rw [h2.1]; exact e⟩
theorem lm_z {f : Nat → Int} {n s k0 m0 l0 i c k m l a b a' b' p' : Int} (h : b01 (LM f n s k0 m0 l0 i c k m l a b a' b' p') = 1) (h0 : a' = 0) : a = 0 := by
  rcases b01_e h with q | q | q
  · omega
  · exact q.1
  · exact q.1
theorem kx_b {pr : Nat → Nat → Bool} {Kz M : mm_M} (h : INV pr Kz M) : (0 ≤ kiX M ∧ kiX M ≤ 8) ∧ 0 ≤ byX M ∧ byX M ≤ 6 := by
  have h3 := h.rm (i := 78) (c := 7) (k := 3) (t := 6) rfl rfl (by decide)
  have h4 := h.rm (i := 78) (c := 7) (k := 4) (t := 8) rfl rfl (by decide)
  exact ⟨h.rd h4 (show s_b 8 0 = (0, 8) from rfl), h.rd h3 (show s_b 6 0 = (0, 6) from rfl)⟩
theorem lx_y {A : mm_M → Int × Int × Int × Int → (Nat → Int) → Prop} {f : Nat → Int} {n a s i k b p s0 k0 m0 l0 c m l a0 b0 b' : Int} {MB M : mm_M} (h : b01 (LX A f n a s i k b MB M) = 1) (hl : b01 (LM f n s0 k0 m0 l0 i c k m l a0 b0 a b' p) = 1) (hx : ¬ a = 0 ∨ n ≤ c ∨ tkF f n p = 3001) : b01 (CT A a MB M (mqC f n s 0 0)) = 1 := by
  by_cases z : a = 0
  · have q : p = i ∧ 0 ≤ i ∧ i ≤ n ∧ c ≤ i := by
      rcases b01_e hl with q | q | q
      · omega
      · exact q.2.2.2.2
      · omega
    refine lx_z f n h (p := p) (b01_i (Or.inr ⟨q.1, q.2.1, q.2.2.1⟩)) ?_
    rcases hx with w | w | w
    · exact Or.inl w
    · right; unfold tkF; rw [if_neg (by omega)]
    · exact Or.inr w
  · exact b01_i (Or.inl z)
theorem hd_e (f : Nat → Int) (n : Int) (h : (exP f n 1008 (runE blB f n 0)).1 = 0) : (hdP f n).2.2 = (exP f n 2059 (exP f n 1008 (runE blB f n 0)).2.2).2.2 := by unfold hdP sqP; rw [if_pos h]
