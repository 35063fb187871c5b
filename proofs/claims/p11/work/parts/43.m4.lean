section
/-! THE READER of the reference -/
def woF (k : Int) : Int := if k = 12 then 0 else if k = 7 then 1 else if k = 8 then 2 else if k = 1 then 3 else if k = 2 then 4 else if k = 3 then 5 else if k = 13 then 6 else if k = 4 then 7 else -1
theorem woF_s (k : Int) : k = 12 ∧ woF k = 0 ∨ k = 7 ∧ woF k = 1 ∨ k = 8 ∧ woF k = 2 ∨ k = 1 ∧ woF k = 3 ∨ k = 2 ∧ woF k = 4 ∨ k = 3 ∧ woF k = 5 ∨ k = 13 ∧ woF k = 6 ∨ k = 4 ∧ woF k = 7 ∨ (¬ k = 12 ∧ ¬ k = 7 ∧ ¬ k = 8 ∧ ¬ k = 1 ∧ ¬ k = 2 ∧ ¬ k = 3 ∧ ¬ k = 13 ∧ ¬ k = 4) ∧ woF k = -1 := by
  by_cases h1 : k = 12
  · subst h1; left; exact ⟨rfl, rfl⟩
  by_cases h2 : k = 7
  · subst h2; right; left; exact ⟨rfl, rfl⟩
  by_cases h3 : k = 8
  · subst h3; right; right; left; exact ⟨rfl, rfl⟩
  by_cases h4 : k = 1
  · subst h4; right; right; right; left; exact ⟨rfl, rfl⟩
  by_cases h5 : k = 2
  · subst h5; right; right; right; right; left; exact ⟨rfl, rfl⟩
  by_cases h6 : k = 3
  · subst h6; right; right; right; right; right; left; exact ⟨rfl, rfl⟩
  by_cases h7 : k = 13
  · subst h7; right; right; right; right; right; right; left; exact ⟨rfl, rfl⟩
  by_cases h8 : k = 4
  · subst h8; right; right; right; right; right; right; right; left; exact ⟨rfl, rfl⟩
  right; right; right; right; right; right; right; right
  exact ⟨⟨h1, h2, h3, h4, h5, h6, h7, h8⟩, by unfold woF; rw [if_neg h1, if_neg h2, if_neg h3, if_neg h4, if_neg h5, if_neg h6, if_neg h7, if_neg h8]⟩
/-- fresh[] has one sign more -/
def APP (M N : mm_M) (c : Int) : Prop := (N.1 102 280).toInt = (M.1 102 280).toInt + 1 ∧ (N.1 102 (281 + (M.1 102 280).toInt).toNat).toInt = c ∧ ∀ p : Nat, p ≠ 280 → (p : Int) ≠ 281 + (M.1 102 280).toInt → N.1 102 p = M.1 102 p
/-- fresh[] has some signs more, that want a depth r and make it deeper by e -/
def EXT (M N : mm_M) (r e : Int) : Prop := (M.1 102 280).toInt ≤ (N.1 102 280).toInt ∧ (∀ p : Nat, p ≠ 280 → (p : Int) < 281 + (M.1 102 280).toInt → N.1 102 p = M.1 102 p) ∧ ∀ o : Int, 0 ≤ o → o ≤ (M.1 102 280).toInt → zwS (M.1 102) (281 + o) ((M.1 102 280).toInt - o) → r ≤ dqF (M.1 102) (281 + o) ((M.1 102 280).toInt - o).toNat → zwS (N.1 102) (281 + o) ((N.1 102 280).toInt - o) ∧ dqF (N.1 102) (281 + o) ((N.1 102 280).toInt - o).toNat = dqF (M.1 102) (281 + o) ((M.1 102 280).toInt - o).toNat + e
theorem ex_0 (M : mm_M) : b01 (EXT M M 0 0) = 1 := b01_i ⟨Int.le_refl _, fun _ _ _ => rfl, fun o _ _ h _ => ⟨h, by omega⟩⟩
theorem ex_c {M N P : mm_M} {r e : Int} (hc : P.1 102 = N.1 102) (h : b01 (EXT M N r e) = 1) : b01 (EXT M P r e) = 1 := b01_i (by
  unfold EXT; rw [hc]; exact b01_e h)
theorem ex_tr {M N P : mm_M} {r1 e1 r2 e2 r e : Int} (q : r1 ≤ r ∧ r2 ≤ r + e1 ∧ e = e1 + e2) (h1 : b01 (EXT M N r1 e1) = 1) (h2 : b01 (EXT N P r2 e2) = 1) : b01 (EXT M P r e) = 1 := b01_i (by
  obtain ⟨a1, a2, a3⟩ := b01_e h1
  obtain ⟨b1, b2, b3⟩ := b01_e h2
  refine ⟨by omega, fun p hp hp2 => ?_, fun o h0 ho hz hd => ?_⟩
  · rw [b2 p hp (by omega), a2 p hp hp2]
  · obtain ⟨c1, c2⟩ := a3 o h0 ho hz (by omega)
    obtain ⟨d1, d2⟩ := b3 o h0 (by omega) c1 (by omega)
    exact ⟨d1, by omega⟩)
theorem dqF_c {f g : Nat → Int32} {o : Int} : ∀ n : Nat, (∀ i : Nat, i < n → f (o + (i : Int)).toNat = g (o + (i : Int)).toNat) → dqF f o n = dqF g o n
  | 0, _ => rfl
  | n + 1, h => by rw [dqF, dqF, dqF_c n (fun i hi => h i (by omega)), h n (by omega)]
theorem zwS_c {f g : Nat → Int32} {o n : Int} (h : ∀ i : Nat, (i : Int) < n → f (o + (i : Int)).toNat = g (o + (i : Int)).toNat) (hz : zwS f o n) : zwS g o n := by
  intro i hi
  have := hz i hi
  rw [h i hi, dqF_c i (fun j hj => h j (by omega))] at this
  exact this
theorem ap_e {M N : mm_M} {c r e : Int} (hM : 0 ≤ (M.1 102 280).toInt) (hd : ∀ d : Int, r ≤ d → okc c d) (he : ∀ d : Int, (if c < 3000 then d + 1 else if c = 3006 then d else d - 1) = d + e) (h : b01 (APP M N c) = 1) : b01 (EXT M N r e) = 1 := b01_i (by
  obtain ⟨a1, a2, a3⟩ := b01_e h
  refine ⟨by omega, fun p hp hp2 => a3 p hp (by omega), fun o h0 ho hz hr => ?_⟩
  have hs : ∀ i : Nat, (i : Int) < (M.1 102 280).toInt - o → M.1 102 (281 + o + (i : Int)).toNat = N.1 102 (281 + o + (i : Int)).toNat := fun i hi => (a3 _ (by omega) (by omega)).symm
  have hz2 := zwS_c hs hz
  have hdq : dqF (N.1 102) (281 + o) ((M.1 102 280).toInt - o).toNat = dqF (M.1 102) (281 + o) ((M.1 102 280).toInt - o).toNat := (dqF_c _ (fun i hi => hs i (by omega))).symm
  have en : ((N.1 102 280).toInt - o).toNat = ((M.1 102 280).toInt - o).toNat + 1 := by omega
  have ec : (N.1 102 (281 + o + ((((M.1 102 280).toInt - o).toNat : Nat) : Int)).toNat).toInt = c := by
    rw [show (281 + o + ((((M.1 102 280).toInt - o).toNat : Nat) : Int)) = 281 + (M.1 102 280).toInt by omega]; exact a2
  refine ⟨fun i hi => ?_, ?_⟩
  · rcases (show (i : Int) < (M.1 102 280).toInt - o ∨ i = ((M.1 102 280).toInt - o).toNat by omega) with q | q
    · exact hz2 i q
    · rw [q, ec, hdq]; exact hd _ hr
  · rw [en, dqF, ec, hdq]; exact he _)
theorem ap_push {M N : mm_M} {c : Int} (hM : 0 ≤ (M.1 102 280).toInt ∧ 0 ≤ c ∧ c ≤ 1007) (h : b01 (APP M N c) = 1) : b01 (EXT M N 0 1) = 1 := ap_e hM.1 (fun d hd => Or.inl ⟨by omega, hM.2⟩) (fun d => by rw [if_pos (by omega)]) h
theorem ap_not {M N : mm_M} (hM : 0 ≤ (M.1 102 280).toInt) (h : b01 (APP M N 3006) = 1) : b01 (EXT M N 1 0) = 1 := ap_e hM (fun d hd => Or.inr (Or.inl ⟨rfl, hd⟩)) (fun d => by rw [if_neg (by decide), if_pos rfl]; omega) h
theorem ap_bin {M N : mm_M} {c : Int} (hM : 0 ≤ (M.1 102 280).toInt ∧ 3000 ≤ c ∧ ¬ c = 3006) (h : b01 (APP M N c) = 1) : b01 (EXT M N 2 (-1)) = 1 := ap_e hM.1 (fun d hd => Or.inr (Or.inr ⟨hM.2.1, hM.2.2, hd⟩)) (fun d => by rw [if_neg (by omega), if_neg hM.2.2]; omega) h
theorem ap_w {M M1 M' : mm_M} {c n : Int} (e1 : M1 = wI M 102 (281 + n).toNat (sI c)) (e2 : M' = wI M1 102 280 (sI (n + 1))) (q : n = (M.1 102 280).toInt ∧ 0 ≤ n ∧ n ≤ 899 ∧ -2147483648 ≤ c ∧ c ≤ 2147483647) : b01 (APP M M' c) = 1 := b01_i (by
  obtain ⟨q1, q2, q3, q4, q5⟩ := q
  refine ⟨?_, ?_, fun p hp hp2 => ?_⟩
  · rw [s_wr e2 (by omega)]; omega
  · rw [← q1, wI_ne e2 (by omega), s_wr e1 ⟨q4, q5⟩]
  · rw [wI_ne e2 hp, wI_ne e1 (by omega)])
/-- what lines that tell no law leave of fresh[] -/
def scQ (p : Nat) : Bool := (Nat.ble 2 p && Nat.ble p 7) || (Nat.ble 49 p)
def SC (M N : mm_M) : Prop := ∀ p : Nat, scQ p = true → N.1 102 p = M.1 102 p
theorem sc_0 (M : mm_M) : b01 (SC M M) = 1 := b01_i (fun _ _ => rfl)
theorem sc_w {M N N' : mm_M} {p : Nat} {v : Int32} (e : N' = wI N 102 p v) (hp : scQ p = false) (h : b01 (SC M N) = 1) : b01 (SC M N') = 1 := b01_i (fun q hq => by
  rw [wI_ne e (fun z => by rw [z, hp] at hq; cases hq)]; exact b01_e h q hq)
theorem sc_c {M N P : mm_M} (hc : P.1 102 = N.1 102) (h : b01 (SC M N) = 1) : b01 (SC M P) = 1 := b01_i (fun q hq => by rw [hc]; exact b01_e h q hq)
theorem sc_t {M N P : mm_M} (h : b01 (SC M N) = 1) (h2 : b01 (SC N P) = 1) : b01 (SC M P) = 1 := b01_i (fun q hq => by rw [b01_e h2 q hq]; exact b01_e h q hq)
def ODP (M : mm_M) : Prop := ∀ p : Nat, 20 ≤ p → p ≤ 25 → (M.1 102 p).toInt ≤ 9
theorem od_w {M M' : mm_M} {p : Nat} {v : Int} (e : M' = wI M 102 p (sI v)) (hv : -2147483648 ≤ v ∧ v ≤ 9) (h : b01 (ODP M) = 1) : b01 (ODP M') = 1 := b01_i (fun q h1 h2 => by
  by_cases z : q = p
  · subst z; rw [s_wr e (by omega)]; exact hv.2
  · rw [wI_ne e z]; exact b01_e h q h1 h2)
theorem od_n {M M' : mm_M} {p : Nat} {v : Int32} (e : M' = wI M 102 p v) (hp : p < 20 ∨ 25 < p) (h : b01 (ODP M) = 1) : b01 (ODP M') = 1 := b01_i (fun q h1 h2 => by
  rw [wI_ne e (by omega)]; exact b01_e h q h1 h2)
theorem od_c {M N : mm_M} (hc : N.1 102 = M.1 102) (h : b01 (ODP M) = 1) : b01 (ODP N) = 1 := b01_i (fun q h1 h2 => by rw [hc]; exact b01_e h q h1 h2)
/-- the laws told in fresh[], and its kept pairs -/
def FL (M : mm_M) : Prop := (zwB (M.1 102) ∧ ∀ l : Nat, l < 2 → (M.1 102 (4 + l)).toInt + (M.1 102 (6 + l)).toInt ≤ (M.1 102 280).toInt) ∧ ∀ i : Nat, i < 10 → pkF (M.1 102) (50 + 23 * i)
theorem zwL_c {f g : Nat → Int32} {l : Nat} (e2 : g (2 + l) = f (2 + l)) (e4 : g (4 + l) = f (4 + l)) (e6 : g (6 + l) = f (6 + l)) (h : ∀ p : Nat, 281 ≤ p → (p : Int) < 281 + ((f (4 + l)).toInt + (f (6 + l)).toInt) → g p = f p) (h0 : 0 ≤ (f (4 + l)).toInt) (hz : zwL f l) : zwL g l := by
  obtain ⟨z1, z2, z3⟩ := hz
  unfold zwL
  rw [e2, e4, e6]
  have hs : ∀ i : Nat, (i : Int) < (f (6 + l)).toInt → f (281 + (f (4 + l)).toInt + (i : Int)).toNat = g (281 + (f (4 + l)).toInt + (i : Int)).toNat := fun i hi => (h _ (by omega) (by omega)).symm
  refine ⟨z1, zwS_c hs z2, ?_⟩
  rcases z3 with z3 | z3
  · exact Or.inl z3
  · right
    rw [← dqF_c _ (fun i hi => hs i (by omega))]; exact z3
theorem fl_sc {M N : mm_M} (hb : ∀ l : Nat, l < 2 → 0 ≤ (M.1 102 (4 + l)).toInt) (h : b01 (FL M) = 1) (hs : b01 (SC M N) = 1) : b01 (FL N) = 1 := b01_i (by
  obtain ⟨⟨⟨z0, z1⟩, z2⟩, z3⟩ := b01_e h
  have hs := b01_e hs
  have sc : ∀ p : Nat, (2 ≤ p ∧ p ≤ 7) ∨ 49 ≤ p → N.1 102 p = M.1 102 p := by
    intro p hp
    refine hs p ?_
    unfold scQ
    rcases hp with hp | hp
    · rw [Nat.ble_eq_true_of_le hp.1, Nat.ble_eq_true_of_le hp.2]; rfl
    · rw [Nat.ble_eq_true_of_le hp]; simp
  refine ⟨⟨⟨zwL_c (sc _ (by omega)) (sc _ (by omega)) (sc _ (by omega)) (fun p hp _ => sc p (by omega)) (hb 0 (by decide)) z0, zwL_c (sc _ (by omega)) (sc _ (by omega)) (sc _ (by omega)) (fun p hp _ => sc p (by omega)) (hb 1 (by decide)) z1⟩, fun l hl => ?_⟩, fun i hi => ?_⟩
  · rw [sc (4 + l) (by omega), sc (6 + l) (by omega), sc 280 (by omega)]; exact z2 l hl
  · unfold pkF; rw [sc _ (by omega), sc _ (by omega)]; exact z3 i hi)
theorem fl_law {M N P1 P2 P : mm_M} {l : Nat} (hl : l < 2) (hb : ∀ l : Nat, l < 2 → 0 ≤ (M.1 102 (4 + l)).toInt) (h : b01 (FL M) = 1) (hx : b01 (EXT M N 0 1) = 1) (e1 : P1 = wI N 102 (2 + l) (sI 1)) (e2 : P2 = wI P1 102 (4 + l) (sI (M.1 102 280).toInt)) (e3 : P = wI P2 102 (6 + l) (sI ((N.1 102 280).toInt - (M.1 102 280).toInt))) (q : 0 ≤ (M.1 102 280).toInt ∧ (N.1 102 280).toInt ≤ 900) : b01 (FL P) = 1 := b01_i (by
  obtain ⟨⟨⟨z0, z1⟩, z2⟩, z3⟩ := b01_e h
  obtain ⟨x1, x2, x3⟩ := b01_e hx
  have same : ∀ p : Nat, p ≠ 2 + l → p ≠ 4 + l → p ≠ 6 + l → P.1 102 p = N.1 102 p := fun p h1 h2 h3 => by
    rw [wI_ne e3 h3, wI_ne e2 h2, wI_ne e1 h1]
  have p4 : (P.1 102 (4 + l)).toInt = (M.1 102 280).toInt := by rw [wI_ne e3 (by omega), s_wr e2 (by omega)]
  have p6 : (P.1 102 (6 + l)).toInt = (N.1 102 280).toInt - (M.1 102 280).toInt := s_wr e3 (by omega)
  have p280 : P.1 102 280 = N.1 102 280 := same 280 (by omega) (by omega) (by omega)
  obtain ⟨y1, y2⟩ := x3 (M.1 102 280).toInt q.1 (Int.le_refl _) (by intro i hi; omega) (by rw [Int.sub_self]; exact Int.le_refl _)
  have mine : zwL (P.1 102) l := by
    unfold zwL
    rw [p4, p6]
    have hs : ∀ i : Nat, (i : Int) < (N.1 102 280).toInt - (M.1 102 280).toInt → N.1 102 (281 + (M.1 102 280).toInt + (i : Int)).toNat = P.1 102 (281 + (M.1 102 280).toInt + (i : Int)).toNat := fun i hi => (same _ (by omega) (by omega) (by omega)).symm
    refine ⟨by omega, zwS_c hs y1, Or.inr ?_⟩
    rw [← dqF_c _ (fun i hi => hs i (by omega)), y2, Int.sub_self]
    exact Int.le_refl _
  have other : ∀ l' : Nat, l' < 2 → l' ≠ l → zwL (M.1 102) l' → zwL (P.1 102) l' := by
    intro l' hl' hne hz
    have hq := z2 l' hl'
    have sm : ∀ p : Nat, p ≠ 2 + l → p ≠ 4 + l → p ≠ 6 + l → p ≠ 280 → (p : Int) < 281 + (M.1 102 280).toInt → P.1 102 p = M.1 102 p := fun p h1 h2 h3 h4 h5 => by rw [same p h1 h2 h3, x2 p h4 h5]
    exact zwL_c (f := M.1 102) (sm _ (by omega) (by omega) (by omega) (by omega) (by omega)) (sm _ (by omega) (by omega) (by omega) (by omega) (by omega)) (sm _ (by omega) (by omega) (by omega) (by omega) (by omega)) (fun p hp1 hp2 => sm p (by omega) (by omega) (by omega) (by omega) (by omega)) (hb l' hl') hz
  have sm : ∀ p : Nat, p ≠ 2 + l → p ≠ 4 + l → p ≠ 6 + l → p ≠ 280 → (p : Int) < 281 + (M.1 102 280).toInt → P.1 102 p = M.1 102 p := fun p h1 h2 h3 h4 h5 => by rw [same p h1 h2 h3, x2 p h4 h5]
  refine ⟨⟨?_, fun l' hl' => ?_⟩, fun i hi => ?_⟩
  · rcases (show l = 0 ∨ l = 1 by omega) with rfl | rfl
    · exact ⟨mine, other 1 (by decide) (by decide) z1⟩
    · exact ⟨other 0 (by decide) (by decide) z0, mine⟩
  · rw [p280]
    by_cases hq : l' = l
    · subst hq; rw [p4, p6]; omega
    · have := z2 l' hl'
      rw [sm (4 + l') (by omega) (by omega) (by omega) (by omega) (by omega), sm (6 + l') (by omega) (by omega) (by omega) (by omega) (by omega)]
      omega
  · have := z3 i hi
    unfold pkF at *
    rw [sm _ (by omega) (by omega) (by omega) (by omega) (by omega), sm _ (by omega) (by omega) (by omega) (by omega) (by omega)]
    exact this)
def ZR (M : mm_M) (k : Int) : Prop := ∀ p : Nat, (p : Int) < k → M.1 102 p = 0
theorem zr_0 (M : mm_M) : b01 (ZR M 0) = 1 := b01_i (fun p hp => absurd hp (by omega))
theorem zr_s {M M' : mm_M} {k : Int} (e : M' = wI M 102 k.toNat (sI 0)) (h0 : 0 ≤ k) (h : b01 (ZR M k) = 1) : b01 (ZR M' (k + 1)) = 1 := b01_i (fun p hp => by
  by_cases z : p = k.toNat
  · subst z; rw [e]; exact (u2_s M.1 102 k.toNat (sI 0)).trans rfl
  · rw [wI_ne e z]; exact b01_e h p (by omega))
theorem b48_0 (k : Nat) : (s_b 48 k).1 ≤ 0 ∧ 0 ≤ (s_b 48 k).2 := by
  show (bf k).1 ≤ 0 ∧ 0 ≤ (bf k).2
  have h1 : ∀ j, (bk j).1 ≤ 0 ∧ 0 ≤ (bk j).2 := by intro j; unfold bk; (repeat' split) <;> decide
  unfold bf bz
  (repeat' split) <;> first | decide | exact h1 _
theorem zr_fl {M : mm_M} (h : b01 (ZR M 1181) = 1) : b01 (FL M) = 1 ∧ b01 (ODP M) = 1 ∧ (M.1 102 280).toInt = 0 ∧ (M.1 102 26).toInt = 0 ∧ (M.1 102 27).toInt = 0 := by
  have z := b01_e h
  have t0 : ∀ p : Nat, p < 1181 → (M.1 102 p).toInt = 0 := fun p hp => by rw [z p (by omega)]; rfl
  have zl : ∀ l : Nat, l < 2 → zwL (M.1 102) l := by
    intro l hl
    unfold zwL
    rw [t0 (4 + l) (by omega), t0 (6 + l) (by omega), t0 (2 + l) (by omega)]
    exact ⟨by decide, fun i hi => by omega, Or.inl rfl⟩
  refine ⟨b01_i ⟨⟨⟨zl 0 (by decide), zl 1 (by decide)⟩, fun l hl => ?_⟩, fun i hi => ?_⟩, b01_i (fun p h1 h2 => by rw [t0 p (by omega)]; decide), t0 280 (by decide), t0 26 (by decide), t0 27 (by decide)⟩
  · rw [t0 (4 + l) (by omega), t0 (6 + l) (by omega), t0 280 (by decide)]; decide
  · unfold pkF; rw [t0 _ (by omega), t0 _ (by omega)]; decide
theorem b48_c (p : Nat) (v : Int) (h : (-2147483648 ≤ v ∧ v ≤ 2147483647) ∧ 281 ≤ p ∧ p ≤ 1180) : (s_b 48 p).1 ≤ v ∧ v ≤ (s_b 48 p).2 := by
  have e : s_b 48 p = (-2147483648, 2147483647) := by
    show bf p = _
    unfold bf bz
    rw [if_neg (by omega), if_neg (by omega), if_neg (by omega), if_neg (by omega), if_neg (by omega), if_neg (by omega), if_neg (by omega)]
  rw [e]; exact h.1
def RIP (M : mm_M) : Prop := 0 ≤ (M.1 98 6).toInt ∧ (M.1 98 6).toInt ≤ (M.1 98 7).toInt ∧ (M.1 98 7).toInt ≤ (M.1 98 8).toInt ∧ (M.1 98 8).toInt ≤ 900 ∧ ((M.1 98 9).toInt = 24 ∨ (M.1 98 6).toInt < (M.1 98 7).toInt)
theorem ri_l {M : mm_M} (h : b01 (RIP M) = 1) : 0 ≤ (M.1 98 6).toInt ∧ (M.1 98 6).toInt ≤ (M.1 98 7).toInt ∧ (M.1 98 7).toInt ≤ (M.1 98 8).toInt ∧ (M.1 98 8).toInt ≤ 900 := by
  obtain ⟨h1, h2, h3, h4, -⟩ := b01_e h
  exact ⟨h1, h2, h3, h4⟩
theorem ri_k {M : mm_M} (h : b01 (RIP M) = 1) (hk : ¬ (M.1 98 9).toInt = 24) : (M.1 98 6).toInt < (M.1 98 7).toInt := by
  obtain ⟨-, -, -, -, h5⟩ := b01_e h
  omega
theorem ri_c {M N : mm_M} (hc : N.1 98 = M.1 98) (h : b01 (RIP M) = 1) : b01 (RIP N) = 1 := b01_i (by unfold RIP; rw [hc]; exact b01_e h)
def XW (M N : mm_M) (r e s : Int) : Prop := (N.1 98 11).toInt ≠ 0 ∨ ((M.1 98 11).toInt = 0 ∧ (N.1 102 280).toInt - (N.1 98 6).toInt + s ≤ (M.1 102 280).toInt - (M.1 98 6).toInt ∧ EXT M N r e)
def CA (M : mm_M) : Prop := (M.1 98 11).toInt ≠ 0 ∨ (M.1 102 280).toInt ≤ (M.1 98 6).toInt
def CB (M : mm_M) : Prop := (M.1 98 11).toInt ≠ 0 ∨ (M.1 102 280).toInt ≤ 899
def AW (M N : mm_M) (c : Int) : Prop := (M.1 98 11).toInt ≠ 0 ∨ APP M N c
theorem xw_0 (M : mm_M) : b01 (XW M M 0 0 0) = 1 := b01_i (by
  by_cases h : (M.1 98 11).toInt = 0
  · exact Or.inr ⟨h, by omega, b01_e (ex_0 M)⟩
  · exact Or.inl h)
theorem xw_t {M N P : mm_M} {r1 e1 s1 r2 e2 s2 : Int} (r e s : Int) (q : r1 ≤ r ∧ r2 ≤ r + e1 ∧ e = e1 + e2 ∧ s ≤ s1 + s2) (h1 : b01 (XW M N r1 e1 s1) = 1) (h2 : b01 (XW N P r2 e2 s2) = 1) : b01 (XW M P r e s) = 1 := b01_i (by
  rcases b01_e h2 with h2 | ⟨a1, a2, a3⟩
  · exact Or.inl h2
  · rcases b01_e h1 with h1 | ⟨b1, b2, b3⟩
    · exact absurd a1 h1
    · exact Or.inr ⟨b1, by omega, b01_e (ex_tr ⟨q.1, q.2.1, q.2.2.1⟩ (b01_i b3) (b01_i a3))⟩)
theorem xw_c {N P : mm_M} (s : Int) (hc : P.1 102 = N.1 102) (h : ¬ (P.1 98 11).toInt = 0 ∨ (N.1 98 11).toInt = 0 ∧ (N.1 98 6).toInt + s ≤ (P.1 98 6).toInt) : b01 (XW N P 0 0 s) = 1 := b01_i (by
  rcases h with h | h
  · exact Or.inl h
  · refine Or.inr ⟨h.1, by rw [hc]; omega, b01_e (ex_c hc (ex_0 N))⟩)
theorem xw_a {M N : mm_M} {c r e : Int} (h98 : N.1 98 = M.1 98) (hx : b01 (APP M N c) = 1 → b01 (EXT M N r e) = 1) (h : b01 (AW M N c) = 1) : b01 (XW M N r e (-1)) = 1 := b01_i (by
  rcases b01_e h with h | h
  · left; rw [h98]; exact h
  · by_cases q : (M.1 98 11).toInt = 0
    · refine Or.inr ⟨q, ?_, b01_e (hx (b01_i h))⟩
      rw [h98]; have := h.1; omega
    · left; rw [h98]; exact q)
theorem ca_x {M N : mm_M} {r e s : Int} (hs : 0 ≤ s) (h : b01 (CA M) = 1) (hx : b01 (XW M N r e s) = 1) : b01 (CA N) = 1 := b01_i (by
  rcases b01_e hx with hx | ⟨a1, a2, a3⟩
  · exact Or.inl hx
  · rcases b01_e h with h | h
    · exact absurd a1 h
    · right; omega)
theorem cb_x {M N : mm_M} {r e s : Int} (hs : 1 ≤ s) (hA : (N.1 98 6).toInt ≤ 900) (h : b01 (CA M) = 1) (hx : b01 (XW M N r e s) = 1) : b01 (CB N) = 1 := b01_i (by
  rcases b01_e hx with hx | ⟨a1, a2, a3⟩
  · exact Or.inl hx
  · rcases b01_e h with h | h
    · exact absurd a1 h
    · right; omega)
theorem cb_0 {M : mm_M} (h : b01 (CA M) = 1) (hA : (M.1 98 6).toInt ≤ 899) : b01 (CB M) = 1 := b01_i (by
  rcases b01_e h with h | h
  · exact Or.inl h
  · right; omega)
theorem cb_e {M : mm_M} (h : b01 (CB M) = 1) (hw : (M.1 98 11).toInt = 0) : (M.1 102 280).toInt ≤ 899 := by
  rcases b01_e h with h | h
  · exact absurd hw h
  · exact h
theorem xw_n {M N : mm_M} {r e s : Int} (h : b01 (XW M N r e s) = 1) (hw : (N.1 98 11).toInt = 0) : (M.1 98 11).toInt = 0 ∧ (M.1 102 280).toInt ≤ (N.1 102 280).toInt := by
  rcases b01_e h with h | ⟨a1, a2, a3⟩
  · exact absurd hw h
  · exact ⟨a1, a3.1⟩
theorem xw_e {M N : mm_M} {r e s : Int} (h : b01 (XW M N r e s) = 1) (hw : (N.1 98 11).toInt = 0) : b01 (EXT M N r e) = 1 := by
  rcases b01_e h with h | ⟨a1, a2, a3⟩
  · exact absurd hw h
  · exact b01_i a3
/-- what holds between lines, k: a kind's line is under way (the pair isn't told yet) -/
def KV (M : mm_M) (k : Int) : Prop := (M.1 98 11).toInt ≠ 0 ∨ ((M.1 102 280).toInt ≤ (M.1 98 6).toInt ∧ ODP M ∧ (M.1 102 27).toInt < pw2 (k + 1) ∧ (M.1 102 26).toInt = k ∧ FL M)
def LV (M : mm_M) : Prop := (M.1 98 11).toInt ≠ 0 ∨ ((M.1 102 280).toInt ≤ (M.1 98 6).toInt ∧ ODP M ∧ (M.1 102 27).toInt < pw2 (M.1 102 26).toInt ∧ FL M)
theorem lv_w0 {M : mm_M} (h : ¬ (M.1 98 11).toInt = 0) : b01 (LV M) = 1 := b01_i (Or.inl h)
theorem lv_c {M N : mm_M} (hc : N.1 102 = M.1 102) (q : ¬ (N.1 98 11).toInt = 0 ∨ (M.1 98 11).toInt = 0 ∧ (M.1 98 6).toInt ≤ (N.1 98 6).toInt) (h : b01 (LV M) = 1) : b01 (LV N) = 1 := b01_i (by
  rcases q with q | q
  · exact Or.inl q
  · rcases b01_e h with h | ⟨h1, h2, h3, h4⟩
    · exact absurd q.1 h
    · right
      refine ⟨by rw [hc]; omega, b01_e (od_c hc (b01_i h2)), by rw [hc]; exact h3, ?_⟩
      unfold FL; rw [hc]; exact h4)
theorem fl_w {M M' : mm_M} {p : Nat} {v : Int32} (e : M' = wI M 102 p v) (hp : scQ p = false) (hb : ∀ l : Nat, l < 2 → 0 ≤ (M.1 102 (4 + l)).toInt) (h : FL M) : FL M' := b01_e (fl_sc hb (b01_i h) (sc_w e hp (sc_0 M)))
theorem h4b {pr : Nat → Nat → Bool} {Kz M : mm_M} (h : INV pr Kz M) : ∀ l : Nat, l < 2 → 0 ≤ (M.1 102 (4 + l)).toInt := by
  intro l hl
  rcases (show l = 0 ∨ l = 1 by omega) with rfl | rfl
  · exact (INV.rd h (i := 102) (c := 48) (k := 4) rfl rfl).1
  · exact (INV.rd h (i := 102) (c := 48) (k := 5) rfl rfl).1
theorem lv_w {M M' : mm_M} {p : Nat} {v : Int32} (e : M' = wI M 102 p v) (hb : ∀ l : Nat, l < 2 → 0 ≤ (M.1 102 (4 + l)).toInt) (q : (p = 0 ∨ p = 1 ∨ 8 ≤ p) ∧ (p < 20 ∨ 28 ≤ p) ∧ p < 49) (h : b01 (LV M) = 1) : b01 (LV M') = 1 := b01_i (by
  have e98 : M'.1 98 = M.1 98 := wI_cell e (by decide)
  have hp := (show ∀ p : Nat, p < 49 → (p = 0 ∨ p = 1 ∨ 8 ≤ p) → scQ p = false by decide) p q.2.2 q.1
  rcases b01_e h with h | ⟨h1, h2, h3, h4⟩
  · left; rw [e98]; exact h
  · right
    refine ⟨by rw [e98, wI_ne e (by omega)]; exact h1, b01_e (od_n e (by omega) (b01_i h2)), by rw [wI_ne e (by omega), wI_ne e (by omega)]; exact h3, fl_w e hp hb h4⟩)
theorem lv_o {M M' : mm_M} {p : Nat} {v : Int} (e : M' = wI M 102 p (sI v)) (hb : ∀ l : Nat, l < 2 → 0 ≤ (M.1 102 (4 + l)).toInt) (q : 20 ≤ p ∧ p ≤ 25) (hv : ¬ (M.1 98 11).toInt = 0 ∨ -2147483648 ≤ v ∧ v ≤ 9) (h : b01 (LV M) = 1) : b01 (LV M') = 1 := b01_i (by
  have e98 : M'.1 98 = M.1 98 := wI_cell e (by decide)
  have hp : ∀ p : Nat, p < 26 → 20 ≤ p → scQ p = false := by decide
  rcases b01_e h with h | ⟨h1, h2, h3, h4⟩
  · left; rw [e98]; exact h
  · rcases hv with hv | hv
    · left; rw [e98]; exact hv
    · right
      refine ⟨by rw [e98, wI_ne e (by omega)]; exact h1, b01_e (od_w e hv (b01_i h2)), by rw [wI_ne e (by omega), wI_ne e (by omega)]; exact h3, fl_w e (hp p (by omega) q.1) hb h4⟩)
theorem kv_0 {M : mm_M} {k : Int} (hk : (M.1 102 26).toInt = k) (h : b01 (LV M) = 1) : b01 (KV M k) = 1 := b01_i (by
  rcases b01_e h with h | ⟨h1, h2, h3, h4⟩
  · exact Or.inl h
  · right
    rw [hk] at h3
    have := pw2_m (a := k) (b := k + 1) (by omega)
    exact ⟨h1, h2, by omega, hk, h4⟩)
theorem kv_c {M N : mm_M} {k : Int} (hc : N.1 102 = M.1 102) (q : ¬ (N.1 98 11).toInt = 0 ∨ (M.1 98 11).toInt = 0 ∧ (M.1 98 6).toInt ≤ (N.1 98 6).toInt) (h : b01 (KV M k) = 1) : b01 (KV N k) = 1 := b01_i (by
  rcases q with q | q
  · exact Or.inl q
  · rcases b01_e h with h | ⟨h1, h2, h3, h4, h5⟩
    · exact absurd q.1 h
    · right
      refine ⟨by rw [hc]; omega, b01_e (od_c hc (b01_i h2)), by rw [hc]; exact h3, by rw [hc]; exact h4, ?_⟩
      unfold FL; rw [hc]; exact h5)
theorem kv_w {M M' : mm_M} {p : Nat} {v : Int32} {k : Int} (e : M' = wI M 102 p v) (hb : ∀ l : Nat, l < 2 → 0 ≤ (M.1 102 (4 + l)).toInt) (q : 28 ≤ p ∧ p ≤ 48) (h : b01 (KV M k) = 1) : b01 (KV M' k) = 1 := b01_i (by
  have e98 : M'.1 98 = M.1 98 := wI_cell e (by decide)
  have hp : ∀ p : Nat, p < 49 → 28 ≤ p → scQ p = false := by decide
  rcases b01_e h with h | ⟨h1, h2, h3, h4, h5⟩
  · left; rw [e98]; exact h
  · right
    exact ⟨by rw [e98, wI_ne e (by omega)]; exact h1, b01_e (od_n e (by omega) (b01_i h2)), by rw [wI_ne e (by omega)]; exact h3, by rw [wI_ne e (by omega)]; exact h4, fl_w e (hp p (by omega) q.1) hb h5⟩)
theorem kv_s {M M' : mm_M} {k x : Int} (e : M' = wI M 102 27 (sI (orI x (pw2 k)))) (hx : x = (M.1 102 27).toInt) (hb : ∀ l : Nat, l < 2 → 0 ≤ (M.1 102 (4 + l)).toInt) (q : 0 ≤ k ∧ k ≤ 7 ∧ 0 ≤ x ∧ -2147483648 ≤ orI x (pw2 k) ∧ orI x (pw2 k) ≤ 2147483647) (h : b01 (KV M k) = 1) : b01 (KV M' k) = 1 := b01_i (by
  have e98 : M'.1 98 = M.1 98 := wI_cell e (by decide)
  rcases b01_e h with h | ⟨h1, h2, h3, h4, h5⟩
  · left; rw [e98]; exact h
  · right
    have ho := or_lt (s := x) (k := k) (K := k + 1) ⟨q.2.2.1, by omega, q.1, by omega, by omega⟩
    exact ⟨by rw [e98, wI_ne e (by decide)]; exact h1, b01_e (od_n e (by decide) (b01_i h2)), by rw [s_wr e ⟨q.2.2.2.1, q.2.2.2.2⟩]; exact ho.2, by rw [wI_ne e (by decide)]; exact h4, fl_w e (by decide) hb h5⟩)
theorem kv_e {M M' : mm_M} {k x : Int} (e : M' = wI M 102 26 (sI (x + 1))) (hx : x = k) (hb : ∀ l : Nat, l < 2 → 0 ≤ (M.1 102 (4 + l)).toInt) (q : 0 ≤ k ∧ k ≤ 7) (h : b01 (KV M k) = 1) : b01 (LV M') = 1 := b01_i (by
  subst hx
  have e98 : M'.1 98 = M.1 98 := wI_cell e (by decide)
  rcases b01_e h with h | ⟨h1, h2, h3, h4, h5⟩
  · left; rw [e98]; exact h
  · right
    have ek : (M'.1 102 26).toInt = x + 1 := s_wr e (by omega)
    exact ⟨by rw [e98, wI_ne e (by decide)]; exact h1, b01_e (od_n e (by decide) (b01_i h2)), by rw [ek, wI_ne e (by decide)]; exact h3, fl_w e (by decide) hb h5⟩)
theorem kv_k {M : mm_M} {k : Int} (h : b01 (KV M k) = 1) (hw : (M.1 98 11).toInt = 0) : (M.1 102 26).toInt = k := by
  rcases b01_e h with h | ⟨h1, h2, h3, h4, h5⟩
  · exact absurd hw h
  · exact h4
theorem lv_ca {M : mm_M} (h : b01 (LV M) = 1) : b01 (CA M) = 1 := b01_i (by
  rcases b01_e h with h | h
  · exact Or.inl h
  · exact Or.inr h.1)
theorem lv_law {M N P1 P2 P : mm_M} {a : Int} {p2 p4 p6 : Nat} (ha : 0 ≤ a ∧ a ≤ 1) (q2 : p2 = 2 + a.toNat) (q4 : p4 = 4 + a.toNat) (q6 : p6 = 6 + a.toNat) (hb : ∀ l : Nat, l < 2 → 0 ≤ (M.1 102 (4 + l)).toInt) (h : b01 (LV M) = 1) (hx : b01 (XW M N 0 1 0) = 1) (hw : (N.1 98 11).toInt = 0) (e1 : P1 = wI N 102 p2 (sI 1)) (e2 : P2 = wI P1 102 p4 (sI (M.1 102 280).toInt)) (e3 : P = wI P2 102 p6 (sI ((N.1 102 280).toInt - (M.1 102 280).toInt))) (q : 0 ≤ (M.1 102 280).toInt ∧ (N.1 102 280).toInt ≤ 900) : b01 (LV P) = 1 := b01_i (by
  have ex := xw_e hx hw
  obtain ⟨w0, -⟩ := xw_n hx hw
  subst q2; subst q4; subst q6
  rcases b01_e hx with hx | ⟨x1, x2, x3⟩
  · exact absurd hw hx
  rcases b01_e h with h | ⟨h1, h2, h3, h4⟩
  · exact absurd w0 h
  have fl := fl_law (l := a.toNat) (by omega) hb (b01_i h4) ex e1 e2 e3 q
  have e98 : P.1 98 = N.1 98 := (wI_cell e3 (by decide)).trans ((wI_cell e2 (by decide)).trans (wI_cell e1 (by decide)))
  have sm : ∀ p : Nat, 8 ≤ p → p ≠ 280 → p < 281 → P.1 102 p = M.1 102 p := fun p hp1 hp2 hp3 => by
    rw [wI_ne e3 (by omega), wI_ne e2 (by omega), wI_ne e1 (by omega), x3.2.1 p hp2 (by omega)]
  have p280 : P.1 102 280 = N.1 102 280 := by rw [wI_ne e3 (by omega), wI_ne e2 (by omega), wI_ne e1 (by omega)]
  right
  refine ⟨by rw [e98, p280]; omega, fun p hp1 hp2 => by rw [sm p (by omega) (by omega) (by omega)]; exact h2 p hp1 hp2, by rw [sm 27 (by decide) (by decide) (by decide), sm 26 (by decide) (by decide) (by decide)]; exact h3, b01_e fl⟩)
def w01 (M : mm_M) : Int := if (M.1 98 11).toInt = 0 then 1 else 0
theorem w01_s (M : mm_M) : (M.1 98 11).toInt = 0 ∧ w01 M = 1 ∨ ¬ (M.1 98 11).toInt = 0 ∧ w01 M = 0 := by
  unfold w01; split <;> simp [*]
theorem lv_z {M : mm_M} (hz : b01 (ZR M 1181) = 1) (hA : 0 ≤ (M.1 98 6).toInt) : b01 (LV M) = 1 := b01_i (by
  obtain ⟨z1, z2, z3, z4, z5⟩ := zr_fl hz
  right
  rw [z3, z4, z5]
  exact ⟨hA, b01_e z2, by decide, b01_e z1⟩)
theorem zr_c {M N : mm_M} {k : Int} (hc : N.1 102 = M.1 102) (h : b01 (ZR M k) = 1) : b01 (ZR N k) = 1 := b01_i (by unfold ZR; rw [hc]; exact b01_e h)
/-! COPIES of all[] -/
def CWA (M : mm_M) : Prop := ∀ j : Nat, j < 3 → zwB (fun k => M.1 99 (1181 * j + k))
def CPX (M B : mm_M) (d c2 s : Nat) (k : Int) : Prop := (∀ p : Nat, d ≤ p → (p : Int) < d + k → M.1 99 p = B.1 c2 (s + (p - d))) ∧ (∀ p : Nat, (p < d ∨ (d : Int) + k ≤ p) → M.1 99 p = B.1 99 p) ∧ M.1 102 = B.1 102 ∧ M.1 105 = B.1 105
theorem cx_0 (M : mm_M) (d c2 s : Nat) : b01 (CPX M M d c2 s 0) = 1 := b01_i ⟨fun p h1 h2 => by omega, fun p h => rfl, rfl, rfl⟩
theorem cx_s {M M' B : mm_M} {d c2 s pd : Nat} {k : Int} {v : Int32} (e : M' = wI M 99 pd v) (hk : 0 ≤ k) (hpd : pd = d + k.toNat) (hv : v = B.1 c2 (s + k.toNat)) (h : b01 (CPX M B d c2 s k) = 1) : b01 (CPX M' B d c2 s (k + 1)) = 1 := b01_i (by
  obtain ⟨h1, h2, h3, h4⟩ := b01_e h
  refine ⟨fun p q1 q2 => ?_, fun p q => ?_, (wI_cell e (by decide)).trans h3, (wI_cell e (by decide)).trans h4⟩
  · by_cases z : p = pd
    · subst z
      have e1 : M'.1 99 p = v := by rw [e]; exact u2_s M.1 99 p v
      rw [e1, hv, show s + (p - d) = s + k.toNat by omega]
    · rw [wI_ne e z]; exact h1 p q1 (by omega)
  · rw [wI_ne e (by omega)]; exact h2 p (by omega))
theorem cx_r {M B : mm_M} {d c2 s : Nat} {k : Int} (h : b01 (CPX M B d c2 s k) = 1) (p : Nat) (q : p < d ∨ (d : Int) + k ≤ p) : M.1 99 p = B.1 99 p := (b01_e h).2.1 p q
theorem cx_f {M B : mm_M} {d c2 s : Nat} {k : Int} (h : b01 (CPX M B d c2 s k) = 1) : M.1 102 = B.1 102 := (b01_e h).2.2.1
theorem zwB_c {f g : Nat → Int32} (hb : ∀ l : Nat, l < 2 → 0 ≤ (f (4 + l)).toInt) (h : ∀ p : Nat, p < 1181 → g p = f p) (hz : zwB f) : zwB g := by
  refine ⟨zwL_c (h _ (by decide)) (h _ (by decide)) (h _ (by decide)) (fun p h1 h2 => h p ?_) (hb 0 (by decide)) hz.1, zwL_c (h _ (by decide)) (h _ (by decide)) (h _ (by decide)) (fun p h1 h2 => h p ?_) (hb 1 (by decide)) hz.2⟩
  · have := hz.1.1; omega
  · have := hz.2.1; omega
theorem h99b {pr : Nat → Nat → Bool} {Kz M : mm_M} (h : INV pr Kz M) (j : Nat) (hj : j < 3) : ∀ l : Nat, l < 2 → 0 ≤ (M.1 99 (1181 * j + (4 + l))).toInt := by
  intro l hl
  have hh : ∀ j, j < 3 → ∀ l, l < 2 → (s_b 45 (1181 * j + (4 + l))) = (0, 900) := by decide
  exact (INV.rd h (i := 99) (c := 45) rfl (hh j hj l hl)).1
/-- a copy of a whole part of all[], out of another part -/
theorem cx_99 {pr : Nat → Nat → Bool} {Kz M B : mm_M} (hB : INV pr Kz B) {a b : Nat} (ha : a < 3) (hb : b < 3) {d s : Nat} (hd : d = 1181 * a) (hs : s = 1181 * b) (h : b01 (CPX M B d 99 s 1181) = 1) (hp : b01 (PI B) = 1) (hc : b01 (CWA B) = 1) : b01 (PI M) = 1 ∧ b01 (CWA M) = 1 := by
  obtain ⟨h1, h2, h3, h4⟩ := b01_e h
  subst hd; subst hs
  have inn : ∀ k : Nat, k < 1181 → M.1 99 (1181 * a + k) = B.1 99 (1181 * b + k) := fun k hk => by
    rw [h1 _ (by omega) (by omega), show 1181 * a + k - 1181 * a = k by omega]
  constructor
  · refine b01_i (fun c o hc => ?_)
    rcases ppQ_c hc with rfl | rfl
    · have hm : o % 1181 < 1181 := Nat.mod_lt _ (by decide)
      by_cases z : o / 1181 = a
      · have eo : o = 1181 * a + o % 1181 := by omega
        have hlt : o % 1181 + 1 < 1181 := by
          unfold ppQ at hc
          simp only [Bool.or_eq_true, Bool.and_eq_true, Nat.beq_eq] at hc
          rcases hc with ⟨-, hc | hc⟩ | hc
          · omega
          · have := Nat.le_of_ble_eq_true hc.1.2; omega
          · omega
        have hq : ppQ 99 (1181 * b + o % 1181) = true := by
          unfold ppQ at hc ⊢
          rw [show (1181 * b + o % 1181) % 1181 = o % 1181 by omega]
          simpa using hc
        have := b01_e hp 99 _ hq
        unfold pkF at *
        rw [eo, Nat.add_assoc, inn _ hm, inn _ hlt]; exact this
      · have := b01_e hp 99 o hc
        have hlt : (o + 1) / 1181 = o / 1181 := by
          unfold ppQ at hc
          simp only [Bool.or_eq_true, Bool.and_eq_true, Nat.beq_eq] at hc
          rcases hc with ⟨-, hc | hc⟩ | hc
          · omega
          · have := Nat.le_of_ble_eq_true hc.1.2; omega
          · omega
        unfold pkF at *
        rw [h2 o (by omega), h2 (o + 1) (by omega)]; exact this
    · have := b01_e hp 105 o hc
      rw [h4]; exact this
  · refine b01_i (fun j hj => ?_)
    by_cases z : j = a
    · subst z
      exact zwB_c (h99b hB b hb) (fun p hp => inn p hp) (b01_e hc b hb)
    · exact zwB_c (h99b hB j hj) (fun p hp => h2 _ (by omega)) (b01_e hc j hj)
theorem cx_102 {pr : Nat → Nat → Bool} {Kz M B : mm_M} (hB : INV pr Kz B) (h : b01 (CPX M B 0 102 0 1181) = 1) (hp : b01 (PI B) = 1) (hc : b01 (CWA B) = 1) (hl : b01 (LV B) = 1) (hw : (B.1 98 11).toInt = 0) : b01 (PI M) = 1 ∧ b01 (CWA M) = 1 := by
  obtain ⟨h1, h2, h3, h4⟩ := b01_e h
  obtain ⟨l1, l2, l3, l4⟩ : (B.1 102 280).toInt ≤ (B.1 98 6).toInt ∧ ODP B ∧ (B.1 102 27).toInt < pw2 (B.1 102 26).toInt ∧ FL B := by
    rcases b01_e hl with hl | hl
    · exact absurd hw hl
    · exact hl
  have inn : ∀ k : Nat, k < 1181 → M.1 99 k = B.1 102 k := fun k hk => by
    rw [h1 _ (by omega) (by omega), show 0 + (k - 0) = k by omega]
  constructor
  · refine b01_i (fun c o hc => ?_)
    rcases ppQ_c hc with rfl | rfl
    · by_cases z : o < 1181
      · unfold ppQ at hc
        rw [Nat.mod_eq_of_lt z] at hc
        simp only [Bool.or_eq_true, Bool.and_eq_true, Nat.beq_eq] at hc
        rcases hc with ⟨-, hc | hc⟩ | hc
        · subst hc
          unfold pkF; rw [inn _ (by decide), inn _ (by decide)]; exact l3
        · have g1 := Nat.le_of_ble_eq_true hc.1.1
          have g2 := Nat.le_of_ble_eq_true hc.1.2
          have := l4.2 ((o - 50) / 23) (by omega)
          have eo : 50 + 23 * ((o - 50) / 23) = o := by have := hc.2; omega
          rw [eo] at this
          unfold pkF at *
          rw [inn _ (by omega), inn _ (by omega)]; exact this
        · omega
      · have := b01_e hp 99 o hc
        unfold pkF at *
        rw [h2 o (by omega), h2 (o + 1) (by omega)]; exact this
    · have := b01_e hp 105 o hc
      rw [h4]; exact this
  · refine b01_i (fun j hj => ?_)
    by_cases z : j = 0
    · subst z
      exact zwB_c (h4b hB) (fun p hp => by rw [Nat.mul_zero, Nat.zero_add]; exact inn p hp) l4.1.1
    · exact zwB_c (h99b hB j hj) (fun p hp => h2 _ (by omega)) (b01_e hc j hj)
theorem cwa_c {M N : mm_M} (h : N.1 99 = M.1 99) (hc : b01 (CWA M) = 1) : b01 (CWA N) = 1 := b01_i (by unfold CWA; rw [h]; exact b01_e hc)
theorem cwa_w {pr : Nat → Nat → Bool} {Kz M M' : mm_M} (hM : INV pr Kz M) {v : Int32} (e : M' = wI M 99 49 v) (hc : b01 (CWA M) = 1) : b01 (CWA M') = 1 := b01_i (by
  intro j hj
  obtain ⟨z0, z1⟩ := b01_e hc j hj
  have ne : ∀ p : Nat, p ≠ 49 → M'.1 99 p = M.1 99 p := fun p hp => wI_ne e hp
  exact ⟨zwL_c (ne _ (by omega)) (ne _ (by omega)) (ne _ (by omega)) (fun p h1 h2 => ne _ (by omega)) (h99b hM j hj 0 (by decide)) z0, zwL_c (ne _ (by omega)) (ne _ (by omega)) (ne _ (by omega)) (fun p h1 h2 => ne _ (by omega)) (h99b hM j hj 1 (by decide)) z1⟩)
theorem q_i (x y : Int) (h : 0 ≤ x ∧ x < 1181 ∧ 0 ≤ y ∧ y ≤ 2) : s_b 45 (1181 * y + x).toNat = s_b 45 x.toNat := by
  rw [b45, b45]; congr 1; omega
theorem q_f {x v : Int} (h : 0 ≤ x ∧ x < 1181) (hv : (s_b 48 x.toNat).1 ≤ v ∧ v ≤ (s_b 48 x.toNat).2) (ho : 20 ≤ x → x ≤ 25 → v ≤ 9) : (s_b 45 x.toNat).1 ≤ v ∧ v ≤ (s_b 45 x.toNat).2 := by
  rw [b45, Nat.mod_eq_of_lt (by omega)]
  have e48 : s_b 48 x.toNat = bf x.toNat := rfl
  rw [e48] at hv
  unfold bf at hv
  by_cases z : 20 ≤ x.toNat ∧ x.toNat ≤ 25
  · rw [if_pos z] at hv
    have : bz x.toNat = (0, 9) := by
      unfold bz; rw [if_neg (by omega), if_neg (by omega), if_pos z]
    rw [this]; exact ⟨hv.1, ho (by omega) (by omega)⟩
  · rw [if_neg z] at hv; exact hv
theorem lv_od {M : mm_M} (h : b01 (LV M) = 1) (hw : (M.1 98 11).toInt = 0) (x : Int) (h1 : 20 ≤ x) (h2 : x ≤ 25) : (M.1 102 x.toNat).toInt ≤ 9 := by
  rcases b01_e h with h | h
  · exact absurd hw h
  · exact h.2.1 x.toNat (by omega) (by omega)
/-! THE REFERENCE'S READER: its kinds are the tokens -/
def kdF (t : Int) : Int := if t < 1000 then 23 else if t < 1018 then ([12, 7, 8, 1, 2, 3, 13, 4, 0, 6, 10, 11, 5, 9, 15, 14, 16, 22].getD (t - 1000).toNat 22 : Int) else if t = 2059 then 30 else if t = 2058 then 31 else if t = 2043 then 32 else if t = 2045 then 33 else if t = 2042 then 34 else if t = 2040 then 35 else if t = 2041 then 36 else if t = 2091 then 37 else if t = 2093 then 38 else if t = 2061 then 39 else if t = 2060 then 40 else if t = 2062 then 41 else if t = 3000 then 25 else 24
theorem kd_w : ∀ w : Nat, w < 18 → kdF (1000 + (w : Int)) = [12, 7, 8, 1, 2, 3, 13, 4, 0, 6, 10, 11, 5, 9, 15, 14, 16, 22].getD w 22 := by decide +kernel
theorem kd_d {t : Int} (h : t < 1000) : kdF t = 23 := by unfold kdF; rw [if_pos h]
theorem kd_s : kdF 2059 = 30 ∧ kdF 2058 = 31 ∧ kdF 2043 = 32 ∧ kdF 2045 = 33 ∧ kdF 2042 = 34 ∧ kdF 2040 = 35 ∧ kdF 2041 = 36 ∧ kdF 2091 = 37 ∧ kdF 2093 = 38 ∧ kdF 2061 = 39 ∧ kdF 2060 = 40 ∧ kdF 2062 = 41 ∧ kdF 3000 = 25 ∧ kdF 3001 = 24 := by decide +kernel
/-- the kinds there are, with their tokens -/
def kdP (t k : Int) : Prop := (0 ≤ t ∧ t ≤ 999 ∧ k = 23) ∨ (t = 1000 ∧ k = 12) ∨ (t = 1001 ∧ k = 7) ∨ (t = 1002 ∧ k = 8) ∨ (t = 1003 ∧ k = 1) ∨ (t = 1004 ∧ k = 2) ∨ (t = 1005 ∧ k = 3) ∨ (t = 1006 ∧ k = 13) ∨ (t = 1007 ∧ k = 4) ∨ (t = 1008 ∧ k = 0) ∨ (t = 1009 ∧ k = 6) ∨ (t = 1010 ∧ k = 10) ∨ (t = 1011 ∧ k = 11) ∨ (t = 1012 ∧ k = 5) ∨ (t = 1013 ∧ k = 9) ∨ (t = 1014 ∧ k = 15) ∨ (t = 1015 ∧ k = 14) ∨ (t = 1016 ∧ k = 16) ∨ (t = 1017 ∧ k = 22) ∨ (t = 2059 ∧ k = 30) ∨ (t = 2058 ∧ k = 31) ∨ (t = 2043 ∧ k = 32) ∨ (t = 2045 ∧ k = 33) ∨ (t = 2042 ∧ k = 34) ∨ (t = 2040 ∧ k = 35) ∨ (t = 2041 ∧ k = 36) ∨ (t = 2091 ∧ k = 37) ∨ (t = 2093 ∧ k = 38) ∨ (t = 2061 ∧ k = 39) ∨ (t = 2060 ∧ k = 40) ∨ (t = 2062 ∧ k = 41) ∨ (t = 3000 ∧ k = 25) ∨ (t = 3001 ∧ k = 24)
theorem kd_all (f : Nat → Int) (n i : Int) (h : 0 ≤ i) : kdP (tkF f n i) (kdF (tkF f n i)) := by
  have v := tkF_v f n i h
  generalize tkF f n i = t at v ⊢
  obtain ⟨s1, s2, s3, s4, s5, s6, s7, s8, s9, s10, s11, s12, s13, s14⟩ := kd_s
  rcases v with ⟨a, b, _⟩ | ⟨a, b, _⟩ | ⟨q, _⟩ | ⟨q, _⟩ | ⟨q, _⟩
  · exact Or.inl ⟨a, b, kd_d (by omega)⟩
  · have w := kd_w (t - 1000).toNat (by omega)
    rw [show 1000 + (((t - 1000).toNat : Nat) : Int) = t by omega] at w
    rw [w]
    rcases (show t = 1000 ∨ t = 1001 ∨ t = 1002 ∨ t = 1003 ∨ t = 1004 ∨ t = 1005 ∨ t = 1006 ∨ t = 1007 ∨ t = 1008 ∨ t = 1009 ∨ t = 1010 ∨ t = 1011 ∨ t = 1012 ∨ t = 1013 ∨ t = 1014 ∨ t = 1015 ∨ t = 1016 ∨ t = 1017 by omega) with rfl | rfl | rfl | rfl | rfl | rfl | rfl | rfl | rfl | rfl | rfl | rfl | rfl | rfl | rfl | rfl | rfl | rfl <;> simp [kdP]
  · rcases q with rfl | rfl | rfl | rfl | rfl | rfl | rfl | rfl | rfl | rfl | rfl | rfl
    · rw [s1]; simp [kdP]
    · rw [s2]; simp [kdP]
    · rw [s3]; simp [kdP]
    · rw [s4]; simp [kdP]
    · rw [s5]; simp [kdP]
    · rw [s6]; simp [kdP]
    · rw [s7]; simp [kdP]
    · rw [s8]; simp [kdP]
    · rw [s9]; simp [kdP]
    · rw [s10]; simp [kdP]
    · rw [s11]; simp [kdP]
    · rw [s12]; simp [kdP]
  · rw [q, s13]; simp [kdP]
  · rw [q, s14]; simp [kdP]
/-- one kind, one token -/
theorem kd_1 (f : Nat → Int) (n i : Int) (k t : Int) (hk : ¬ k = 23 ∧ kdP t k) : i < 0 ∨ (kdF (tkF f n i) = k ∧ tkF f n i = t) ∨ (¬ kdF (tkF f n i) = k ∧ ¬ tkF f n i = t) := by
  by_cases h : 0 ≤ i
  · right
    have a := kd_all f n i h
    obtain ⟨h1, h2⟩ := hk
    unfold kdP at a h2
    generalize tkF f n i = x at a ⊢
    generalize kdF x = y at a ⊢
    omega
  · exact Or.inl (by omega)
theorem kd_23 (f : Nat → Int) (n i : Int) : i < 0 ∨ (kdF (tkF f n i) = 23 ∧ tkF f n i < 1000) ∨ (¬ kdF (tkF f n i) = 23 ∧ 1000 ≤ tkF f n i) := by
  by_cases h : 0 ≤ i
  · right
    have a := kd_all f n i h
    unfold kdP at a
    generalize tkF f n i = x at a ⊢
    generalize kdF x = y at a ⊢
    omega
  · exact Or.inl (by omega)
def beF (f : Nat → Int) (n i : Int) : Int := if i < n then teF f n i else i
theorem beF_s (f : Nat → Int) (n i : Int) : (i < n ∧ beF f n i = teF f n i) ∨ (n ≤ i ∧ beF f n i = i) := by
  unfold beF
  by_cases h : i < n
  · rw [if_pos h]; exact Or.inl ⟨h, rfl⟩
  · rw [if_neg h]; exact Or.inr ⟨by omega, rfl⟩
/-- the text of the reference is f, n -/
def TPM (f : Nat → Int) (n : Int) (M : mm_M) : Prop := (∀ k : Nat, (k : Int) < n → f k = (M.1 101 k).toInt) ∧ (M.1 98 8).toInt = n ∧ 0 ≤ n ∧ n ≤ 900
def TKM (f : Nat → Int) (n : Int) (M : mm_M) : Prop := TPM f n M ∧ 0 ≤ (M.1 98 6).toInt ∧ (M.1 98 6).toInt ≤ n ∧ (M.1 98 9).toInt = kdF (tkF f n (M.1 98 6).toInt) ∧ (M.1 98 7).toInt = beF f n (M.1 98 6).toInt ∧ (tkF f n (M.1 98 6).toInt < 1000 → (M.1 98 10).toInt = tkF f n (M.1 98 6).toInt)
/-! keyAt -/
def koL : List Nat := [1, 6, 11, 17, 23, 28, 35, 41, 47, 52, 57, 63, 68, 72, 77, 81, 84, 88]
def koF (n : Nat) : Nat := koL.getD n 88
def cwF (n : Nat) : Nat := [8, 3, 4, 5, 7, 12, 9, 1, 2, 13, 10, 11, 0, 6, 15, 14, 16].getD n 17
def kch (n s : Nat) : Int := ((js_byt 2).getD (koF n + s) 0).toInt
theorem kch_k : ∀ n, n < 17 → cwF n < 17 ∧ (∀ s, s < (kwF (cwF n)).length → kch n s = (kwF (cwF n)).getD s 0 ∧ ¬ kch n s = 32) ∧ kch n (kwF (cwF n)).length = 32 ∧ koF (n + 1) = koF n + (kwF (cwF n)).length + 1 ∧ kdF (1000 + (cwF n : Int)) = (n : Int) := by decide +kernel
theorem cw_on : ∀ w, w < 17 → ∃ n, n < 17 ∧ cwF n = w := by decide +kernel
theorem ko_b : ∀ n, n < 17 → 1 ≤ koF n ∧ koF n + (kwF (cwF n)).length ≤ 87 := by decide +kernel
/-- the first bytes are those of key n -/
def SMK (f : Nat → Int) (i : Int) (n : Nat) (m : Int) : Prop := (m ≤ ((kwF (cwF n)).length : Int)) ∧ ∀ s : Nat, (s : Int) < m → f (i + (s : Int)).toNat = kch n s
theorem sk_0 (f : Nat → Int) (i : Int) (n : Nat) : b01 (SMK f i n 0) = 1 := b01_i ⟨by omega, fun s hs => by omega⟩
theorem kch_e {n c : Int} {k : Int} (hn : 0 ≤ n ∧ 0 ≤ c) (hk : k = (koF n.toNat : Int)) : ((js_byt 2).getD (k + c).toNat 0).toInt = kch n.toNat c.toNat := by
  unfold kch; rw [show koF n.toNat + c.toNat = (k + c).toNat by omega]
theorem sk_s {f : Nat → Int} {i n m k : Int} (hn : 0 ≤ n ∧ n < 17 ∧ 0 ≤ m) (hk : k = (koF n.toNat : Int)) (h : b01 (SMK f i n.toNat m) = 1) (h32 : ¬ ((js_byt 2).getD (k + m).toNat 0).toInt = 32) (e : f (i + m).toNat = ((js_byt 2).getD (k + m).toNat 0).toInt) : b01 (SMK f i n.toNat (m + 1)) = 1 := b01_i (by
  obtain ⟨h1, h2⟩ := b01_e h
  obtain ⟨k1, k2, k3, k4, k5⟩ := kch_k n.toNat (by omega)
  rw [kch_e ⟨hn.1, hn.2.2⟩ hk] at h32 e
  refine ⟨?_, fun s hs => ?_⟩
  · rcases (show m < ((kwF (cwF n.toNat)).length : Int) ∨ m = ((kwF (cwF n.toNat)).length : Int) by omega) with q | q
    · omega
    · rw [show m.toNat = (kwF (cwF n.toNat)).length by omega] at h32; exact absurd k3 h32
  · by_cases z : (s : Int) = m
    · rw [z, e, show m.toNat = s by omega]
    · exact h2 s (by omega))
/-- key n it is -/
theorem kq_y {f : Nat → Int} {i n m k b : Int} (hn : 0 ≤ n ∧ n < 17 ∧ 0 ≤ m) (hk : k = (koF n.toNat : Int)) (h : b01 (SMK f i n.toNat m) = 1) (h32 : ((js_byt 2).getD (k + m).toNat 0).toInt = 32) (hb : i + m = b) : kdF (twF f i (b - i)) = n := by
  obtain ⟨h1, h2⟩ := b01_e h
  obtain ⟨k1, k2, k3, k4, k5⟩ := kch_k n.toNat (by omega)
  rw [kch_e ⟨hn.1, hn.2.2⟩ hk] at h32
  have ml : m = ((kwF (cwF n.toNat)).length : Int) := by
    rcases (show m < ((kwF (cwF n.toNat)).length : Int) ∨ m = ((kwF (cwF n.toNat)).length : Int) by omega) with q | q
    · exact absurd h32 (k2 m.toNat (by omega)).2
    · exact q
  have q : wmQ f i (b - i) (cwF n.toNat) := ⟨by omega, fun s hs => by rw [h2 s (by omega)]; exact (k2 s hs).1⟩
  have e : twF f i (b - i) = 1000 + (cwF n.toNat : Int) := wdG_in k1 q 17 0 rfl (by omega)
  rw [e, k5]; omega
theorem kq_n {f : Nat → Int} {i n m k b : Int} (hn : 0 ≤ n ∧ n < 17 ∧ 0 ≤ m) (hk : k = (koF n.toNat : Int)) (h : b01 (SMK f i n.toNat m) = 1) (hx : i + m ≤ b) (hy : (((js_byt 2).getD (k + m).toNat 0).toInt = 32 ∧ ¬ i + m = b) ∨ (¬ ((js_byt 2).getD (k + m).toNat 0).toInt = 32 ∧ (b ≤ i + m ∨ ¬ f (i + m).toNat = ((js_byt 2).getD (k + m).toNat 0).toInt))) : ¬ wmQ f i (b - i) (cwF n.toNat) := fun q => by
  obtain ⟨h1, h2⟩ := b01_e h
  obtain ⟨k1, k2, k3, k4, k5⟩ := kch_k n.toNat (by omega)
  obtain ⟨q1, q2⟩ := q
  rw [kch_e ⟨hn.1, hn.2.2⟩ hk] at hy
  rcases hy with ⟨a, c⟩ | ⟨a, c⟩
  · rcases (show m < ((kwF (cwF n.toNat)).length : Int) ∨ m = ((kwF (cwF n.toNat)).length : Int) by omega) with z | z
    · exact (k2 m.toNat (by omega)).2 a
    · omega
  · have lt : m < ((kwF (cwF n.toNat)).length : Int) := by
      rcases (show m < ((kwF (cwF n.toNat)).length : Int) ∨ m = ((kwF (cwF n.toNat)).length : Int) by omega) with z | z
      · exact z
      · rw [show m.toNat = (kwF (cwF n.toNat)).length by omega] at a; exact absurd k3 a
    rcases c with c | c
    · omega
    · have := q2 m.toNat (by omega)
      rw [show i + ((m.toNat : Nat) : Int) = i + m by omega, ← (k2 m.toNat (by omega)).1] at this
      exact c this
def NOK (f : Nat → Int) (i m n : Int) : Prop := ∀ v : Nat, (v : Int) < n → ¬ wmQ f i m (cwF v)
theorem nk_0 (f : Nat → Int) (i m : Int) : b01 (NOK f i m 0) = 1 := b01_i fun v hv => by omega
theorem nk_s {f : Nat → Int} {i m n : Int} (hn : 0 ≤ n) (h : b01 (NOK f i m n) = 1) (q : ¬ wmQ f i m (cwF n.toNat)) : b01 (NOK f i m (n + 1)) = 1 := b01_i fun v hv => by
  by_cases z : (v : Int) = n
  · rw [show v = n.toNat by omega]; exact q
  · exact b01_e h v (by omega)
theorem nk_e {f : Nat → Int} {i m : Int} (h : b01 (NOK f i m 17) = 1) : kdF (twF f i m) = 22 := by
  have e : twF f i m = 1017 := wdG_out (fun v hv q => by
    obtain ⟨k, hk, e⟩ := cw_on v hv
    exact b01_e h k (by omega) (by rw [e]; exact q)) 17 0 (by omega)
  rw [e]; decide
/-! next: what a token's kind is -/
theorem tk_sm {f : Nat → Int} {n i : Int} (h : 0 ≤ i ∧ i < n) (hd : 97 ≤ f i.toNat ∧ f i.toNat ≤ 122) : teF f n i = runE smB f n (i + 1) ∧ kdF (tkF f n i) = kdF (twF f i (teF f n i - i)) ∧ 1000 ≤ tkF f n i := by
  have a := teF_s f n i
  have b := tmF_s f n i
  have c := tkF_lt f n i
  have e : tkF f n i = twF f i (teF f n i - i) := by omega
  have w := twF_b f i (teF f n i - i)
  exact ⟨by omega, by rw [e], by omega⟩
theorem tk_dg {f : Nat → Int} {n i : Int} (h : 0 ≤ i ∧ i < n) (hd : 48 ≤ f i.toNat ∧ f i.toNat ≤ 57) : teF f n i = runE dgB f n (i + 1) ∧ ((3 < teF f n i - i ∧ tkF f n i = 3000) ∨ (teF f n i - i ≤ 3 ∧ tkF f n i = valF f i (teF f n i - i).toNat ∧ 0 ≤ tkF f n i ∧ tkF f n i ≤ 999)) := by
  have a := teF_s f n i
  have b := tmF_s f n i
  have c := tkF_lt f n i
  refine ⟨by omega, ?_⟩
  rcases b with b | ⟨_, _, b | b⟩ | b
  · omega
  · exact Or.inl ⟨b.1, by omega⟩
  · have v := val_b f n i h hd b.1
    exact Or.inr ⟨b.1, by omega, by omega, by omega⟩
  · omega
theorem tk_sg {f : Nat → Int} {n i : Int} (h : 0 ≤ i ∧ i < n) (h1 : f i.toNat < 97 ∨ 122 < f i.toNat) (h2 : f i.toNat < 48 ∨ 57 < f i.toNat) : teF f n i = i + 1 ∧ ((sgQ (f i.toNat) ∧ tkF f n i = 2000 + f i.toNat) ∨ (¬ sgQ (f i.toNat) ∧ tkF f n i = 3000)) := by
  have a := teF_s f n i
  have b := tmF_s f n i
  have c := tkF_lt f n i
  refine ⟨by omega, ?_⟩
  rcases b with b | b | ⟨_, _, b | b⟩
  · omega
  · omega
  · exact Or.inl ⟨b.1, by omega⟩
  · exact Or.inr ⟨b.1, by omega⟩
/-- a sign's number, as far as they were looked at -/
def sgK (c : Int) (m : Int) : Int := if c = 59 ∧ 0 < m then 30 else if c = 58 ∧ 1 < m then 31 else if c = 43 ∧ 2 < m then 32 else if c = 45 ∧ 3 < m then 33 else if c = 42 ∧ 4 < m then 34 else if c = 40 ∧ 5 < m then 35 else if c = 41 ∧ 6 < m then 36 else if c = 91 ∧ 7 < m then 37 else if c = 93 ∧ 8 < m then 38 else if c = 61 ∧ 9 < m then 39 else if c = 60 ∧ 10 < m then 40 else if c = 62 ∧ 11 < m then 41 else 25
theorem tkm_c {f : Nat → Int} {n : Int} {M M' : mm_M} (h1 : M'.1 101 = M.1 101) (h2 : ∀ k, (k = 6 ∨ k = 7 ∨ k = 8 ∨ k = 9 ∨ k = 10) → M'.1 98 k = M.1 98 k) (h : b01 (TKM f n M) = 1) : b01 (TKM f n M') = 1 := b01_i (by
  have := b01_e h
  unfold TKM TPM at *
  rw [h1, h2 6 (by decide), h2 7 (by decide), h2 8 (by decide), h2 9 (by decide), h2 10 (by decide)]
  exact this)
theorem tkm_w {f : Nat → Int} {n : Int} {M M' : mm_M} {i k : Nat} {v : Int32} (e : M' = wI M i k v) (h1 : 98 ≠ i) (h2 : 101 ≠ i) (h : b01 (TKM f n M) = 1) : b01 (TKM f n M') = 1 := tkm_c (wc_x e h2) (fun k _ => congrFun (wc_x e h1) k) h
theorem tkm_f {f : Nat → Int} {n : Int} {M M' : mm_M} {k : Nat} {v : Int32} (e : M' = wI M 98 k v) (hk : k = 0 ∨ k = 11 ∨ k = 12 ∨ k = 13 ∨ k = 14) (h : b01 (TKM f n M) = 1) : b01 (TKM f n M') = 1 := tkm_c (wc_x e (by decide)) (fun j hj => wp_x e (by omega)) h
theorem tkm_J {f : Nat → Int} {n : Int} {M M' : mm_M} {i k : Nat} {v : Int64} (e : M' = wJ M i k v) (h : b01 (TKM f n M) = 1) : b01 (TKM f n M') = 1 := tkm_c (by rw [e]) (fun _ _ => by rw [e]) h
theorem tkm_b {f : Nat → Int} {n : Int} {M : mm_M} (h : b01 (TKM f n M) = 1) : (0 ≤ n ∧ n ≤ 900) ∧ (M.1 98 8).toInt = n ∧ (0 ≤ (M.1 98 6).toInt ∧ (M.1 98 6).toInt ≤ n) := by
  obtain ⟨⟨_, h1, h2⟩, h3, h4, _⟩ := b01_e h
  exact ⟨h2, h1, h3, h4⟩
/-- at place i: kind, behind, number -/
theorem tkm_k {f : Nat → Int} {n i : Int} {M : mm_M} (h : b01 (TKM f n M) = 1) : ¬ (M.1 98 6).toInt = i ∨ ((M.1 98 9).toInt = kdF (tkF f n i) ∧ (M.1 98 7).toInt = beF f n i ∧ (1000 ≤ tkF f n i ∨ (M.1 98 10).toInt = tkF f n i)) := by
  obtain ⟨_, _, _, h1, h2, h3⟩ := b01_e h
  by_cases q : (M.1 98 6).toInt = i
  · rw [q] at h1 h2 h3
    refine Or.inr ⟨h1, h2, ?_⟩
    rcases Int.lt_or_le (tkF f n i) 1000 with z | z
    · exact Or.inr (h3 z)
    · exact Or.inl z
  · exact Or.inl q
theorem nx_r (f : Nat → Int) (n i b : Int) : ¬ b = beF f n i ∨ n ≤ i ∨ runE blB f n b = nxF f n i := by
  by_cases h : b = beF f n i
  · rcases beF_s f n i with ⟨a, e⟩ | ⟨a, e⟩
    · exact Or.inr (Or.inr (by rw [h, e]; rfl))
    · exact Or.inr (Or.inl a)
  · exact Or.inl h
theorem tpm_r {f : Nat → Int} {n : Int} {M : mm_M} {a : Int} (h : b01 (TPM f n M) = 1) (ha : 0 ≤ a ∧ a < n) : f a.toNat = (M.1 101 a.toNat).toInt := (b01_e h).1 _ (by omega)
theorem tkm_p {f : Nat → Int} {n : Int} {M : mm_M} (h : b01 (TKM f n M) = 1) : b01 (TPM f n M) = 1 := b01_i (b01_e h).1
theorem kdk_30 (f : Nat → Int) (n i : Int) : i < 0 ∨ (kdF (tkF f n i) = 30 ∧ tkF f n i = 2059) ∨ (¬ kdF (tkF f n i) = 30 ∧ ¬ tkF f n i = 2059) := kd_1 f n i 30 2059 ⟨by decide, by simp [kdP]⟩
theorem kdk_31 (f : Nat → Int) (n i : Int) : i < 0 ∨ (kdF (tkF f n i) = 31 ∧ tkF f n i = 2058) ∨ (¬ kdF (tkF f n i) = 31 ∧ ¬ tkF f n i = 2058) := kd_1 f n i 31 2058 ⟨by decide, by simp [kdP]⟩
theorem kdk_32 (f : Nat → Int) (n i : Int) : i < 0 ∨ (kdF (tkF f n i) = 32 ∧ tkF f n i = 2043) ∨ (¬ kdF (tkF f n i) = 32 ∧ ¬ tkF f n i = 2043) := kd_1 f n i 32 2043 ⟨by decide, by simp [kdP]⟩
theorem kdk_33 (f : Nat → Int) (n i : Int) : i < 0 ∨ (kdF (tkF f n i) = 33 ∧ tkF f n i = 2045) ∨ (¬ kdF (tkF f n i) = 33 ∧ ¬ tkF f n i = 2045) := kd_1 f n i 33 2045 ⟨by decide, by simp [kdP]⟩
theorem kdk_34 (f : Nat → Int) (n i : Int) : i < 0 ∨ (kdF (tkF f n i) = 34 ∧ tkF f n i = 2042) ∨ (¬ kdF (tkF f n i) = 34 ∧ ¬ tkF f n i = 2042) := kd_1 f n i 34 2042 ⟨by decide, by simp [kdP]⟩
theorem kdk_35 (f : Nat → Int) (n i : Int) : i < 0 ∨ (kdF (tkF f n i) = 35 ∧ tkF f n i = 2040) ∨ (¬ kdF (tkF f n i) = 35 ∧ ¬ tkF f n i = 2040) := kd_1 f n i 35 2040 ⟨by decide, by simp [kdP]⟩
theorem kdk_36 (f : Nat → Int) (n i : Int) : i < 0 ∨ (kdF (tkF f n i) = 36 ∧ tkF f n i = 2041) ∨ (¬ kdF (tkF f n i) = 36 ∧ ¬ tkF f n i = 2041) := kd_1 f n i 36 2041 ⟨by decide, by simp [kdP]⟩
theorem kdk_37 (f : Nat → Int) (n i : Int) : i < 0 ∨ (kdF (tkF f n i) = 37 ∧ tkF f n i = 2091) ∨ (¬ kdF (tkF f n i) = 37 ∧ ¬ tkF f n i = 2091) := kd_1 f n i 37 2091 ⟨by decide, by simp [kdP]⟩
theorem kdk_38 (f : Nat → Int) (n i : Int) : i < 0 ∨ (kdF (tkF f n i) = 38 ∧ tkF f n i = 2093) ∨ (¬ kdF (tkF f n i) = 38 ∧ ¬ tkF f n i = 2093) := kd_1 f n i 38 2093 ⟨by decide, by simp [kdP]⟩
theorem kdk_39 (f : Nat → Int) (n i : Int) : i < 0 ∨ (kdF (tkF f n i) = 39 ∧ tkF f n i = 2061) ∨ (¬ kdF (tkF f n i) = 39 ∧ ¬ tkF f n i = 2061) := kd_1 f n i 39 2061 ⟨by decide, by simp [kdP]⟩
theorem kdk_40 (f : Nat → Int) (n i : Int) : i < 0 ∨ (kdF (tkF f n i) = 40 ∧ tkF f n i = 2060) ∨ (¬ kdF (tkF f n i) = 40 ∧ ¬ tkF f n i = 2060) := kd_1 f n i 40 2060 ⟨by decide, by simp [kdP]⟩
theorem kdk_41 (f : Nat → Int) (n i : Int) : i < 0 ∨ (kdF (tkF f n i) = 41 ∧ tkF f n i = 2062) ∨ (¬ kdF (tkF f n i) = 41 ∧ ¬ tkF f n i = 2062) := kd_1 f n i 41 2062 ⟨by decide, by simp [kdP]⟩
theorem kdk_25 (f : Nat → Int) (n i : Int) : i < 0 ∨ (kdF (tkF f n i) = 25 ∧ tkF f n i = 3000) ∨ (¬ kdF (tkF f n i) = 25 ∧ ¬ tkF f n i = 3000) := kd_1 f n i 25 3000 ⟨by decide, by simp [kdP]⟩
theorem kdk_24 (f : Nat → Int) (n i : Int) : i < 0 ∨ (kdF (tkF f n i) = 24 ∧ tkF f n i = 3001) ∨ (¬ kdF (tkF f n i) = 24 ∧ ¬ tkF f n i = 3001) := kd_1 f n i 24 3001 ⟨by decide, by simp [kdP]⟩
theorem kdk_12 (f : Nat → Int) (n i : Int) : i < 0 ∨ (kdF (tkF f n i) = 12 ∧ tkF f n i = 1000) ∨ (¬ kdF (tkF f n i) = 12 ∧ ¬ tkF f n i = 1000) := kd_1 f n i 12 1000 ⟨by decide, by simp [kdP]⟩
theorem kdk_7 (f : Nat → Int) (n i : Int) : i < 0 ∨ (kdF (tkF f n i) = 7 ∧ tkF f n i = 1001) ∨ (¬ kdF (tkF f n i) = 7 ∧ ¬ tkF f n i = 1001) := kd_1 f n i 7 1001 ⟨by decide, by simp [kdP]⟩
theorem kdk_8 (f : Nat → Int) (n i : Int) : i < 0 ∨ (kdF (tkF f n i) = 8 ∧ tkF f n i = 1002) ∨ (¬ kdF (tkF f n i) = 8 ∧ ¬ tkF f n i = 1002) := kd_1 f n i 8 1002 ⟨by decide, by simp [kdP]⟩
theorem kdk_1 (f : Nat → Int) (n i : Int) : i < 0 ∨ (kdF (tkF f n i) = 1 ∧ tkF f n i = 1003) ∨ (¬ kdF (tkF f n i) = 1 ∧ ¬ tkF f n i = 1003) := kd_1 f n i 1 1003 ⟨by decide, by simp [kdP]⟩
theorem kdk_2 (f : Nat → Int) (n i : Int) : i < 0 ∨ (kdF (tkF f n i) = 2 ∧ tkF f n i = 1004) ∨ (¬ kdF (tkF f n i) = 2 ∧ ¬ tkF f n i = 1004) := kd_1 f n i 2 1004 ⟨by decide, by simp [kdP]⟩
theorem kdk_3 (f : Nat → Int) (n i : Int) : i < 0 ∨ (kdF (tkF f n i) = 3 ∧ tkF f n i = 1005) ∨ (¬ kdF (tkF f n i) = 3 ∧ ¬ tkF f n i = 1005) := kd_1 f n i 3 1005 ⟨by decide, by simp [kdP]⟩
theorem kdk_13 (f : Nat → Int) (n i : Int) : i < 0 ∨ (kdF (tkF f n i) = 13 ∧ tkF f n i = 1006) ∨ (¬ kdF (tkF f n i) = 13 ∧ ¬ tkF f n i = 1006) := kd_1 f n i 13 1006 ⟨by decide, by simp [kdP]⟩
theorem kdk_4 (f : Nat → Int) (n i : Int) : i < 0 ∨ (kdF (tkF f n i) = 4 ∧ tkF f n i = 1007) ∨ (¬ kdF (tkF f n i) = 4 ∧ ¬ tkF f n i = 1007) := kd_1 f n i 4 1007 ⟨by decide, by simp [kdP]⟩
theorem kdk_0 (f : Nat → Int) (n i : Int) : i < 0 ∨ (kdF (tkF f n i) = 0 ∧ tkF f n i = 1008) ∨ (¬ kdF (tkF f n i) = 0 ∧ ¬ tkF f n i = 1008) := kd_1 f n i 0 1008 ⟨by decide, by simp [kdP]⟩
theorem kdk_6 (f : Nat → Int) (n i : Int) : i < 0 ∨ (kdF (tkF f n i) = 6 ∧ tkF f n i = 1009) ∨ (¬ kdF (tkF f n i) = 6 ∧ ¬ tkF f n i = 1009) := kd_1 f n i 6 1009 ⟨by decide, by simp [kdP]⟩
theorem kdk_10 (f : Nat → Int) (n i : Int) : i < 0 ∨ (kdF (tkF f n i) = 10 ∧ tkF f n i = 1010) ∨ (¬ kdF (tkF f n i) = 10 ∧ ¬ tkF f n i = 1010) := kd_1 f n i 10 1010 ⟨by decide, by simp [kdP]⟩
theorem kdk_11 (f : Nat → Int) (n i : Int) : i < 0 ∨ (kdF (tkF f n i) = 11 ∧ tkF f n i = 1011) ∨ (¬ kdF (tkF f n i) = 11 ∧ ¬ tkF f n i = 1011) := kd_1 f n i 11 1011 ⟨by decide, by simp [kdP]⟩
theorem kdk_5 (f : Nat → Int) (n i : Int) : i < 0 ∨ (kdF (tkF f n i) = 5 ∧ tkF f n i = 1012) ∨ (¬ kdF (tkF f n i) = 5 ∧ ¬ tkF f n i = 1012) := kd_1 f n i 5 1012 ⟨by decide, by simp [kdP]⟩
theorem kdk_9 (f : Nat → Int) (n i : Int) : i < 0 ∨ (kdF (tkF f n i) = 9 ∧ tkF f n i = 1013) ∨ (¬ kdF (tkF f n i) = 9 ∧ ¬ tkF f n i = 1013) := kd_1 f n i 9 1013 ⟨by decide, by simp [kdP]⟩
theorem kdk_15 (f : Nat → Int) (n i : Int) : i < 0 ∨ (kdF (tkF f n i) = 15 ∧ tkF f n i = 1014) ∨ (¬ kdF (tkF f n i) = 15 ∧ ¬ tkF f n i = 1014) := kd_1 f n i 15 1014 ⟨by decide, by simp [kdP]⟩
theorem kdk_14 (f : Nat → Int) (n i : Int) : i < 0 ∨ (kdF (tkF f n i) = 14 ∧ tkF f n i = 1015) ∨ (¬ kdF (tkF f n i) = 14 ∧ ¬ tkF f n i = 1015) := kd_1 f n i 14 1015 ⟨by decide, by simp [kdP]⟩
theorem kdk_16 (f : Nat → Int) (n i : Int) : i < 0 ∨ (kdF (tkF f n i) = 16 ∧ tkF f n i = 1016) ∨ (¬ kdF (tkF f n i) = 16 ∧ ¬ tkF f n i = 1016) := kd_1 f n i 16 1016 ⟨by decide, by simp [kdP]⟩
theorem kdk_22 (f : Nat → Int) (n i : Int) : i < 0 ∨ (kdF (tkF f n i) = 22 ∧ tkF f n i = 1017) ∨ (¬ kdF (tkF f n i) = 22 ∧ ¬ tkF f n i = 1017) := kd_1 f n i 22 1017 ⟨by decide, by simp [kdP]⟩
theorem wo_k (f : Nat → Int) (n i : Int) : i < 0 ∨ (1000 ≤ tkF f n i ∧ tkF f n i ≤ 1007 ∧ woF (kdF (tkF f n i)) = tkF f n i - 1000) ∨ ((tkF f n i < 1000 ∨ 1007 < tkF f n i) ∧ woF (kdF (tkF f n i)) = -1) := by
  by_cases h : 0 ≤ i
  · right
    have a := kd_all f n i h
    unfold kdP at a
    generalize tkF f n i = x at a ⊢
    generalize kdF x = y at a ⊢
    have b := woF_s y
    omega
  · exact Or.inl (by omega)
theorem wo_c (x y : Int) : ¬ x = y ∨ woF x = woF y := by
  by_cases h : x = y
  · exact Or.inr (by rw [h])
  · exact Or.inl h
/-- what signs of a law leave of the counts -/
theorem xw_k {M N : mm_M} {r e s : Int} (h : b01 (XW M N r e s) = 1) (hb : 0 ≤ (M.1 102 280).toInt) : ¬ (N.1 98 11).toInt = 0 ∨ ((N.1 102 26).toInt = (M.1 102 26).toInt ∧ (N.1 102 1).toInt = (M.1 102 1).toInt ∧ (N.1 102 0).toInt = (M.1 102 0).toInt) := by
  by_cases q : (N.1 98 11).toInt = 0
  · right
    obtain ⟨_, x2, _⟩ := b01_e (xw_e h q)
    rw [x2 26 (by decide) (by omega), x2 1 (by decide) (by omega), x2 0 (by decide) (by omega)]
    exact ⟨rfl, rfl, rfl⟩
  · exact Or.inl q
theorem tkm_mk {f : Nat → Int} {n i : Int} {M M' : mm_M} (hT : b01 (TPM f n M) = 1) (h101 : M'.1 101 = M.1 101) (ei : (M'.1 98 6).toInt = i) (h8 : (M'.1 98 8).toInt = n ∧ 0 ≤ i ∧ i ≤ n) (hk : (M'.1 98 9).toInt = kdF (tkF f n i)) (hb : (M'.1 98 7).toInt = beF f n i) (hn : 1000 ≤ tkF f n i ∨ (M'.1 98 10).toInt = tkF f n i) : b01 (TKM f n M') = 1 := b01_i (by
  obtain ⟨t1, t2, t3⟩ := b01_e hT
  refine ⟨⟨fun k hk => by rw [h101]; exact t1 k hk, h8.1, t3⟩, by omega, by omega, ?_, ?_, ?_⟩
  · rw [ei]; exact hk
  · rw [ei]; exact hb
  · rw [ei]; intro q; rcases hn with hn | hn
    · omega
    · exact hn)
theorem tpm_s {f : Nat → Int} {n a : Int} {M M' : mm_M} (hT : b01 (TPM f n M) = 1) (h101 : M'.1 101 = M.1 101) : a < 0 ∨ n ≤ a ∨ (M'.1 101 a.toNat).toInt = f a.toNat := by
  by_cases h : 0 ≤ a ∧ a < n
  · right; right; rw [h101]; exact ((b01_e hT).1 _ (by omega)).symm
  · omega
theorem tpm_z {f : Nat → Int} {n : Int} {M : mm_M} (hT : b01 (TPM f n M) = 1) : (M.1 98 8).toInt = n ∧ 0 ≤ n ∧ n ≤ 900 := (b01_e hT).2
theorem tw_c (f : Nat → Int) (i x y : Int) : ¬ x = y ∨ kdF (twF f i x) = kdF (twF f i y) := by
  by_cases h : x = y
  · exact Or.inr (by rw [h])
  · exact Or.inl h
/-- a token at i, by its first byte: behind, kind, number -/
theorem nt_e (f : Nat → Int) (n i : Int) : i < n ∨ (tkF f n i = 3001 ∧ kdF (tkF f n i) = 24 ∧ beF f n i = i) := by
  by_cases h : i < n
  · exact Or.inl h
  · right
    have a := tkF_lt f n i
    have b := beF_s f n i
    have e : tkF f n i = 3001 := by omega
    exact ⟨e, by rw [e]; decide, by omega⟩
theorem nt_s {f : Nat → Int} {n i : Int} (h : 0 ≤ i ∧ i < n) (hd : 97 ≤ f i.toNat ∧ f i.toNat ≤ 122) : beF f n i = runE smB f n (i + 1) ∧ kdF (tkF f n i) = kdF (twF f i (runE smB f n (i + 1) - i)) ∧ 1000 ≤ tkF f n i := by
  have a := tk_sm h hd
  have b := beF_s f n i
  exact ⟨by omega, by rw [a.2.1, a.1], a.2.2⟩
theorem nt_d {f : Nat → Int} {n i : Int} (h : 0 ≤ i ∧ i < n) (hd : 48 ≤ f i.toNat ∧ f i.toNat ≤ 57) : beF f n i = runE dgB f n (i + 1) ∧ ((3 < runE dgB f n (i + 1) - i ∧ kdF (tkF f n i) = 25 ∧ 1000 ≤ tkF f n i) ∨ (runE dgB f n (i + 1) - i ≤ 3 ∧ kdF (tkF f n i) = 23 ∧ tkF f n i = valF f i (runE dgB f n (i + 1) - i).toNat)) := by
  obtain ⟨et, a⟩ := tk_dg h hd
  have b := beF_s f n i
  rw [et] at a
  refine ⟨by omega, ?_⟩
  rcases a with ⟨c, e⟩ | ⟨c, e, e2, e3⟩
  · exact Or.inl ⟨c, by rw [e]; decide, by omega⟩
  · exact Or.inr ⟨c, kd_d (by omega), e⟩
theorem nt_g {f : Nat → Int} {n i : Int} (h : 0 ≤ i ∧ i < n) (h1 : f i.toNat < 97 ∨ 122 < f i.toNat) (h2 : f i.toNat < 48 ∨ 57 < f i.toNat) : beF f n i = i + 1 ∧ kdF (tkF f n i) = sgK (f i.toNat) 12 ∧ 1000 ≤ tkF f n i := by
  have a := tk_sg h h1 h2
  have b := beF_s f n i
  refine ⟨by omega, ?_, ?_⟩
  · rcases a.2 with ⟨q, e⟩ | ⟨q, e⟩
    · rw [e]
      unfold sgQ at q
      rcases q with q | q | q | q | q | q | q | q | q | q | q | q <;> rw [q] <;> decide
    · rw [e]
      unfold sgQ at q
      unfold sgK
      have z : ∀ c d : Int, ¬ f i.toNat = c → ¬ (f i.toNat = c ∧ d < 12) := fun c d y w => y w.1
      rw [if_neg (z 59 0 (by omega)), if_neg (z 58 1 (by omega)), if_neg (z 43 2 (by omega)), if_neg (z 45 3 (by omega)), if_neg (z 42 4 (by omega)), if_neg (z 40 5 (by omega)), if_neg (z 41 6 (by omega)), if_neg (z 91 7 (by omega)), if_neg (z 93 8 (by omega)), if_neg (z 61 9 (by omega)), if_neg (z 60 10 (by omega)), if_neg (z 62 11 (by omega))]
      decide
  · rcases a.2 with ⟨q, e⟩ | ⟨q, e⟩
    · unfold sgQ at q; omega
    · omega
theorem sv_all : ∀ j, j < 12 → ∀ k, k < 12 → ((js_byt 3).getD j 0).toInt = ((js_byt 3).getD k 0).toInt → j = k := by decide +kernel
theorem sg_3 : (((js_byt 3).getD 0 0).toInt = 59 ∧ ((js_byt 3).getD 1 0).toInt = 58 ∧ ((js_byt 3).getD 2 0).toInt = 43 ∧ ((js_byt 3).getD 3 0).toInt = 45 ∧ ((js_byt 3).getD 4 0).toInt = 42 ∧ ((js_byt 3).getD 5 0).toInt = 40) ∧ (((js_byt 3).getD 6 0).toInt = 41 ∧ ((js_byt 3).getD 7 0).toInt = 91 ∧ ((js_byt 3).getD 8 0).toInt = 93 ∧ ((js_byt 3).getD 9 0).toInt = 61 ∧ ((js_byt 3).getD 10 0).toInt = 60 ∧ ((js_byt 3).getD 11 0).toInt = 62) := by decide +kernel
theorem sgK_0 (c : Int) : sgK c 0 = 25 := by
  unfold sgK
  simp
/-- one sign more is looked at -/
theorem sgK_s (c m : Int) (h : 0 ≤ m ∧ m < 12) : (c = ((js_byt 3).getD m.toNat 0).toInt ∧ sgK c (m + 1) = 30 + m) ∨ (¬ c = ((js_byt 3).getD m.toNat 0).toInt ∧ sgK c (m + 1) = sgK c m) := by
  obtain ⟨⟨v0, v1, v2, v3, v4, v5⟩, v6, v7, v8, v9, v10, v11⟩ := sg_3
  rcases (show m = 0 ∨ m = 1 ∨ m = 2 ∨ m = 3 ∨ m = 4 ∨ m = 5 ∨ m = 6 ∨ m = 7 ∨ m = 8 ∨ m = 9 ∨ m = 10 ∨ m = 11 by omega) with rfl | rfl | rfl | rfl | rfl | rfl | rfl | rfl | rfl | rfl | rfl | rfl
  · rw [show ((js_byt 3).getD (0 : Int).toNat 0).toInt = 59 from v0]; unfold sgK; by_cases q : c = 59 <;> simp [q]
  · rw [show ((js_byt 3).getD (1 : Int).toNat 0).toInt = 58 from v1]; unfold sgK; by_cases q : c = 58 <;> simp [q]
  · rw [show ((js_byt 3).getD (2 : Int).toNat 0).toInt = 43 from v2]; unfold sgK; by_cases q : c = 43 <;> simp [q]
  · rw [show ((js_byt 3).getD (3 : Int).toNat 0).toInt = 45 from v3]; unfold sgK; by_cases q : c = 45 <;> simp [q]
  · rw [show ((js_byt 3).getD (4 : Int).toNat 0).toInt = 42 from v4]; unfold sgK; by_cases q : c = 42 <;> simp [q]
  · rw [show ((js_byt 3).getD (5 : Int).toNat 0).toInt = 40 from v5]; unfold sgK; by_cases q : c = 40 <;> simp [q]
  · rw [show ((js_byt 3).getD (6 : Int).toNat 0).toInt = 41 from v6]; unfold sgK; by_cases q : c = 41 <;> simp [q]
  · rw [show ((js_byt 3).getD (7 : Int).toNat 0).toInt = 91 from v7]; unfold sgK; by_cases q : c = 91 <;> simp [q]
  · rw [show ((js_byt 3).getD (8 : Int).toNat 0).toInt = 93 from v8]; unfold sgK; by_cases q : c = 93 <;> simp [q]
  · rw [show ((js_byt 3).getD (9 : Int).toNat 0).toInt = 61 from v9]; unfold sgK; by_cases q : c = 61 <;> simp [q]
  · rw [show ((js_byt 3).getD (10 : Int).toNat 0).toInt = 60 from v10]; unfold sgK; by_cases q : c = 60 <;> simp [q]
  · rw [show ((js_byt 3).getD (11 : Int).toNat 0).toInt = 62 from v11]; unfold sgK; by_cases q : c = 62 <;> simp [q]
theorem run_c (p : Int → Bool) (f : Nat → Int) (n x y : Int) : ¬ x = y ∨ runE p f n x = runE p f n y := by
  by_cases h : x = y
  · exact Or.inr (by rw [h])
  · exact Or.inl h
theorem gf_c (f : Nat → Int) (x y : Int) : ¬ x = y ∨ f x.toNat = f y.toNat := by
  by_cases h : x = y
  · exact Or.inr (by rw [h])
  · exact Or.inl h
theorem val_c (f : Nat → Int) (i x y : Int) : ¬ x = y ∨ valF f i x.toNat = valF f i y.toNat := by
  by_cases h : x = y
  · exact Or.inr (by rw [h])
  · exact Or.inl h
theorem sgK_c (x y m k : Int) : ¬ x = y ∨ ¬ m = k ∨ sgK x m = sgK y k := by
  by_cases h : x = y
  · by_cases h2 : m = k
    · exact Or.inr (Or.inr (by rw [h, h2]))
    · exact Or.inr (Or.inl h2)
  · exact Or.inl h
theorem rx_bl (f : Nat → Int) (n i : Int) (h : 0 ≤ i) : (i < n ∧ (f i.toNat = 10 ∨ f i.toNat = 32) ∧ runE blB f n i = runE blB f n (i + 1)) ∨ (i < n ∧ ¬ f i.toNat = 10 ∧ ¬ f i.toNat = 32 ∧ runE blB f n i = i) ∨ (n ≤ i ∧ runE blB f n i = i) := by
  by_cases q : i < n
  · have := run_bl f n i ⟨h, q⟩; omega
  · exact Or.inr (Or.inr ⟨by omega, runE_n blB f n i (by omega)⟩)
theorem rx_sm (f : Nat → Int) (n i : Int) (h : 0 ≤ i) : (i < n ∧ 97 ≤ f i.toNat ∧ f i.toNat ≤ 122 ∧ runE smB f n i = runE smB f n (i + 1)) ∨ (i < n ∧ (f i.toNat < 97 ∨ 122 < f i.toNat) ∧ runE smB f n i = i) ∨ (n ≤ i ∧ runE smB f n i = i) := by
  by_cases q : i < n
  · have := run_sm f n i ⟨h, q⟩; omega
  · exact Or.inr (Or.inr ⟨by omega, runE_n smB f n i (by omega)⟩)
theorem rx_dg (f : Nat → Int) (n i : Int) (h : 0 ≤ i) : (i < n ∧ 48 ≤ f i.toNat ∧ f i.toNat ≤ 57 ∧ runE dgB f n i = runE dgB f n (i + 1)) ∨ (i < n ∧ (f i.toNat < 48 ∨ 57 < f i.toNat) ∧ runE dgB f n i = i) ∨ (n ≤ i ∧ runE dgB f n i = i) := by
  by_cases q : i < n
  · have := run_dg f n i ⟨h, q⟩; omega
  · exact Or.inr (Or.inr ⟨by omega, runE_n dgB f n i (by omega)⟩)
def keN (n : Nat) : Int := ((koF n + (kwF (cwF n)).length : Nat) : Int)
theorem ke_all : ∀ n, n < 17 → ∀ s, s ≤ (kwF (cwF n)).length → (s < (kwF (cwF n)).length → ¬ kch n s = 32) ∧ (s = (kwF (cwF n)).length → kch n s = 32) := fun n hn s hs => by
  obtain ⟨k1, k2, k3, k4, k5⟩ := kch_k n hn
  exact ⟨fun h => (k2 s h).2, fun h => by rw [h]; exact k3⟩
theorem ke_o (n k : Int) (h : 0 ≤ n ∧ n < 17) : k < (koF n.toNat : Int) ∨ keN n.toNat < k ∨ (k = keN n.toNat ∧ ((js_byt 2).getD k.toNat 0).toInt = 32 ∧ k + 1 = (koF (n + 1).toNat : Int)) ∨ (k < keN n.toNat ∧ ¬ ((js_byt 2).getD k.toNat 0).toInt = 32) := by
  obtain ⟨k1, k2, k3, k4, k5⟩ := kch_k n.toNat (by omega)
  by_cases h1 : k < (koF n.toNat : Int)
  · exact Or.inl h1
  by_cases h2 : keN n.toNat < k
  · exact Or.inr (Or.inl h2)
  have e : ((js_byt 2).getD k.toNat 0).toInt = kch n.toNat (k.toNat - koF n.toNat) := by unfold kch; rw [show koF n.toNat + (k.toNat - koF n.toNat) = k.toNat by omega]
  unfold keN at h2 ⊢
  by_cases h3 : k = ((koF n.toNat + (kwF (cwF n.toNat)).length : Nat) : Int)
  · refine Or.inr (Or.inr (Or.inl ⟨h3, ?_, ?_⟩))
    · rw [e, show k.toNat - koF n.toNat = (kwF (cwF n.toNat)).length by omega]; exact k3
    · rw [show (n + 1).toNat = n.toNat + 1 by omega, k4]; omega
  · refine Or.inr (Or.inr (Or.inr ⟨by omega, ?_⟩))
    rw [e]; exact (k2 _ (by omega)).2
theorem ko_o (n : Int) : n < 0 ∨ 17 < n ∨ (n = 17 ∧ (koF n.toNat : Int) = 88) ∨ (n < 17 ∧ 1 ≤ (koF n.toNat : Int) ∧ (koF n.toNat : Int) ≤ 87 ∧ keN n.toNat ≤ 87 ∧ (koF n.toNat : Int) ≤ keN n.toNat) := by
  by_cases h0 : n < 0
  · exact Or.inl h0
  by_cases h1 : 17 < n
  · exact Or.inr (Or.inl h1)
  by_cases h2 : n = 17
  · subst h2; exact Or.inr (Or.inr (Or.inl ⟨rfl, by decide⟩))
  · have := ko_b n.toNat (by omega)
    unfold keN
    exact Or.inr (Or.inr (Or.inr ⟨by omega, by omega, by omega, by omega, by omega⟩))
theorem cx_l {M B : mm_M} (h : b01 (CPX M B 0 102 0 1181) = 1) : M.1 99 0 = B.1 102 0 := by
  have := (b01_e h).1 0 (by decide) (by decide)
  simpa using this
theorem zr_p {M : mm_M} (h : b01 (ZR M 1181) = 1) : (M.1 102 26).toInt = 0 ∧ (M.1 102 1).toInt = 0 ∧ (M.1 102 0).toInt = 0 := by
  have z := b01_e h
  rw [z 26 (by decide), z 1 (by decide), z 0 (by decide)]; decide
theorem tpm_0 {n : Int} {M M' : mm_M} {f : Nat → Int} (hf : f = mskT (M.1 101) n) (h101 : M'.1 101 = M.1 101) (h8 : (M'.1 98 8).toInt = n ∧ 0 ≤ n ∧ n ≤ 900) : b01 (TPM f n M') = 1 := b01_i ⟨fun k hk => by rw [hf, h101]; unfold mskT; rw [if_pos hk], h8.1, h8.2⟩
theorem subI_x {a b : Int} (h : -2147483648 ≤ a - b ∧ a - b ≤ 2147483647) : subI a b = a - b := by
  unfold subI; rw [sI_sub, sI_t h]
/-! the reference's reader: results as one word -/
theorem kd_2 {i : Int} {A B : Prop} (h : i < 0 ∨ A ∨ B) (h0 : 0 ≤ i) : A ∨ B := h.resolve_left (by omega)
theorem tkm_K {f : Nat → Int} {n : Int} {M : mm_M} (h : b01 (TKM f n M) = 1) : (M.1 98 9).toInt = kdF (tkF f n (M.1 98 6).toInt) ∧ 0 ≤ (M.1 98 6).toInt ∧ (M.1 98 6).toInt ≤ n := by
  obtain ⟨_, h1, h2, h3, _, _⟩ := b01_e h; exact ⟨h3, h1, h2⟩
theorem tkm_N {f : Nat → Int} {n : Int} {M : mm_M} (h : b01 (TKM f n M) = 1) : 1000 ≤ tkF f n (M.1 98 6).toInt ∨ (M.1 98 10).toInt = tkF f n (M.1 98 6).toInt := by
  obtain ⟨_, _, _, _, _, h3⟩ := b01_e h
  by_cases z : tkF f n (M.1 98 6).toInt < 1000
  · exact Or.inr (h3 z)
  · exact Or.inl (by omega)
/-- the next token -/
theorem nx_po {f : Nat → Int} {n i : Int} {M M' : mm_M} (hT : b01 (TKM f n M) = 1) (h : b01 (PO n i (M.1 98 11).toInt (M.1 98 6).toInt) = 1) (ht : ¬ tkF f n (M.1 98 6).toInt = 3001) (he : (M'.1 98 6).toInt = runE blB f n (M.1 98 7).toInt) (hw : (M'.1 98 11).toInt = (M.1 98 11).toInt) : b01 (PO n (nxF f n i) (M'.1 98 11).toInt (M'.1 98 6).toInt) = 1 := b01_i (by
  by_cases z : (M.1 98 11).toInt = 0
  · have q := po_0 h z
    obtain ⟨_, h1, h2, _, h4, _⟩ := b01_e hT
    rw [q.1] at h4 ht
    have lt := tk_lt f n q.2.1 ht
    have s := beF_s f n i
    have l := nx_b f n q.2.1 lt
    refine Or.inr ⟨?_, by omega, l.2⟩
    rw [he, h4]
    unfold nxF
    rcases s with s | s
    · rw [s.2]
    · omega
  · exact Or.inl (by omega))
theorem ex_2z (f : Nat → Int) (n t i a b p a' b' p' : Int) (hp : b01 (PO n i a p) = 1) (ht : a = 0 → ¬ tkF f n p = t) (h : b01 (RR (faQ f n 2 i) a b a' b' p') = 1) : b01 (RR (exP f n t i) a b a' b' p') = 1 :=
  rr_u _ _ a b a' b' p' h (fun z => by have q := po_0 hp z; have ht := ht z; obtain rfl := q.1; unfold exP; rw [if_neg ht]; rfl)
theorem nu_2z (f : Nat → Int) (n lo hi i a b p a' b' p' : Int) (hp : b01 (PO n i a p) = 1) (ht : a = 0 → 1000 ≤ tkF f n p) (h : b01 (RR (faQ f n 2 i) a b a' b' p') = 1) : b01 (RR (nuP f n lo hi i) a b a' b' p') = 1 :=
  rr_u _ _ a b a' b' p' h (fun z => by have q := po_0 hp z; have ht := ht z; obtain rfl := q.1; unfold nuP; rw [if_pos ht]; rfl)
theorem at_4z (f : Nat → Int) (n : Int) (d : Bool) (sub : Int → Int × Int × Int) (i a b p a' b' p' : Int) (hp : b01 (PO n i a p) = 1) (ht : a = 0 → 1008 ≤ tkF f n p ∧ ¬ tkF f n p = 2040) (h : b01 (RR (faQ f n 2 i) a b a' b' p') = 1) : b01 (RR (atP f n d sub i) a b a' b' p') = 1 :=
  rr_u _ _ a b a' b' p' h (fun z => by have q := po_0 hp z; have ht := ht z; obtain rfl := q.1; unfold atP; rw [if_neg (by omega), if_neg ht.2]; rfl)
/-- a row's sign and what is behind it -/
noncomputable def cjP (f : Nat → Int) (n j : Int) : Int × Int × Int := if tkF f n j = 2061 ∨ tkF f n j = 2060 ∨ tkF f n j = 2062 then (0, 0, nxF f n j) else faP f n j 2
noncomputable def sjP (f : Nat → Int) (n : Int) (r : Nat) (i : Int) : Int × Int × Int := sqP (suR f n r i) (cjP f n)
theorem flP_0 (f : Nat → Int) (n i k : Int) (hk : 1 ≤ k) : ¬ flP f n i k = 0 := by have := flP_s f n i k; omega
theorem cj_g (f : Nat → Int) (n : Int) : PG n (cjP f n) := fun i h0 h1 h2 => by
  unfold cjP at h1 ⊢
  by_cases h : tkF f n i = 2061 ∨ tkF f n i = 2060 ∨ tkF f n i = 2062
  · rw [if_pos h]; exact nx_b f n h0 (tk_lt f n h0 (by omega))
  · rw [if_neg h] at h1; exact absurd h1 (flP_0 f n i 2 (by decide))
theorem sj_g (f : Nat → Int) (n : Int) (r : Nat) : PG n (sjP f n r) := fun i h0 h1 h2 => sq_g n h0 (fun z => suR_g f n r i h0 z h2) (PG.h n (cj_g f n)) h1
theorem cj_1 (f : Nat → Int) (n : Int) (r : Nat) (i a b a1 b1 p1 a' b' p' : Int) (h1 : b01 (RR (suR f n r i) a b a1 b1 p1) = 1) (hq : b01 (PO n (suR f n r i).2.2 a1 p1) = 1) (h0 : a1 = 0) (hs : tkF f n p1 = 2061 ∨ tkF f n p1 = 2060 ∨ tkF f n p1 = 2062) (ha : a' = a1) (hb : b' = b1) (hx : b01 (PO n (nxF f n (suR f n r i).2.2) a' p') = 1) : b01 (RR (sjP f n r i) a b a' b' p') = 1 :=
  rr_sq _ _ a b a1 b1 p1 a' b' p' h1 (rr_tk f n _ _ a1 b1 p1 a' b' p' hq h0 ha hb hx (fun z => by rw [z] at hs; unfold cjP; rw [if_pos hs]; exact ⟨rfl, rfl⟩))
theorem cj_2 (f : Nat → Int) (n : Int) (r : Nat) (i a b a1 b1 p1 a' b' p' : Int) (h1 : b01 (RR (suR f n r i) a b a1 b1 p1) = 1) (hq : b01 (PO n (suR f n r i).2.2 a1 p1) = 1) (hs : a1 = 0 → ¬ tkF f n p1 = 2061 ∧ ¬ tkF f n p1 = 2060 ∧ ¬ tkF f n p1 = 2062) (h2 : b01 (RR (faQ f n 2 (suR f n r i).2.2) a1 b1 a' b' p') = 1) : b01 (RR (sjP f n r i) a b a' b' p') = 1 :=
  rr_sq _ _ a b a1 b1 p1 a' b' p' h1 (rr_u _ _ a1 b1 a' b' p' h2 (fun z => by have q := po_0 hq z; have hs := hs z; rw [q.1] at hs; unfold cjP; rw [if_neg (by omega)]; rfl))
theorem sq_sq (A : Int × Int × Int) (F G : Int → Int × Int × Int) : sqP (sqP A F) G = sqP A (fun j => sqP (F j) G) := by
  unfold sqP
  by_cases h : A.1 = 0
  · rw [if_pos h, if_pos h]
  · rw [if_neg h, if_neg h, if_neg h]
theorem cm_cj (f : Nat → Int) (n : Int) (su : Int → Int × Int × Int) (j : Int) : cmP f n su j = sqP (cjP f n j) su := by
  unfold cmP cjP
  by_cases h : tkF f n j = 2061 ∨ tkF f n j = 2060 ∨ tkF f n j = 2062
  · rw [if_pos h, if_pos h]; rfl
  · rw [if_neg h, if_neg h]; unfold sqP; rw [if_neg (show ¬ (faP f n j 2).1 = 0 from flP_0 f n j 2 (by decide))]
theorem un_6 (f : Nat → Int) (n : Int) (r : Nat) (i a b p a1 b1 p1 a2 b2 p2 a' b' p' : Int) (hp : b01 (PO n i a p) = 1) (ht : a = 0 → ¬ tkF f n p = 1016 ∧ ¬ tkF f n p = 2091) (h1 : b01 (RR (sjP f n r i) a b a1 b1 p1) = 1) (h2 : b01 (RR (suR f n r (sjP f n r i).2.2) a1 b1 a2 b2 p2) = 1) (ha : a' = a2) (hb : b' = b2) (hx : p' = p2) : b01 (RR (unR f n r i) a b a' b' p') = 1 :=
  rr_eq _ a b a2 b2 p2 a' b' p' (rr_u _ _ a b a2 b2 p2 (rr_sq _ _ a b a1 b1 p1 a2 b2 p2 h1 h2) (fun z => by
    have q := po_0 hp z
    have ht := ht z
    obtain rfl := q.1
    rw [un_c f n r p ht.1 ht.2]
    unfold sjP
    rw [sq_sq, show cmP f n (suR f n r) = (fun j => sqP (cjP f n j) (suR f n r)) from funext fun j => cm_cj f n (suR f n r) j])) ha hb hx
theorem ll_w (F : Int → Int × Int × Int) (n s i c c' a b a' b' p' : Int) (hc : c' ≤ c) (h : b01 (LL F n s i c a b a' b' p') = 1) : b01 (LL F n s i c' a b a' b' p') = 1 := b01_i (by
  rcases b01_e h with q | q | q
  · exact Or.inl q
  · exact Or.inr (Or.inl ⟨q.1, q.2.1, q.2.2.1, q.2.2.2.1, q.2.2.2.2.1, q.2.2.2.2.2.1, q.2.2.2.2.2.2.1, by omega⟩)
  · exact Or.inr (Or.inr q))
theorem lk_w (F : Int → Int × Int × Int) (n s i c c' m m' a b a' b' p' : Int) (hc : c' ≤ c) (hm : m' = m) (h : b01 (LK F n s i c m a b a' b' p') = 1) : b01 (LK F n s i c' m' a b a' b' p') = 1 := b01_i (by
  subst hm
  rcases b01_e h with q | ⟨q1, q2, q3, q4, q5, q6, q7, q8, q9⟩ | q | q
  · exact Or.inl q
  · exact Or.inr (Or.inl ⟨q1, q2, q3, q4, q5, q6, q7, by omega, q9⟩)
  · exact Or.inr (Or.inr (Or.inl q))
  · exact Or.inr (Or.inr (Or.inr q)))
theorem lw_1 (f : Nat → Int) (n l i a b a2 b2 p2 a' b' p' : Int) (hl : l = 0) (h2 : b01 (RR (exP f n 2058 (nxF f n i)) a b a2 b2 p2) = 1) (h4 : b01 (RR (suR f n 6 (exP f n 2058 (nxF f n i)).2.2) a2 b2 a' b' p') = 1) : b01 (RR (lwP f n l i) a b a' b' p') = 1 :=
  rr_u _ _ a b a' b' p' (rr_sq _ (suR f n 6) a b a2 b2 p2 a' b' p' h2 h4) (fun _ => by unfold lwP waP; rw [if_pos hl])
theorem lw_2 (f : Nat → Int) (n l i a b a2 b2 p2 a' b' p' : Int) (hl : ¬ l = 0) (h2 : b01 (RR (exP f n 2058 (nxF f n i)) a b a2 b2 p2) = 1) (h4 : b01 (RR (trP f n (unR f n 6) (exP f n 2058 (nxF f n i)).2.2) a2 b2 a' b' p') = 1) : b01 (RR (lwP f n l i) a b a' b' p') = 1 :=
  rr_u _ _ a b a' b' p' (rr_sq _ (trP f n (unR f n 6)) a b a2 b2 p2 a' b' p' h2 h4) (fun _ => by unfold lwP leP; rw [if_neg hl])
theorem lw_g (f : Nat → Int) (n l i : Int) (h0 : 0 ≤ i) (hi : i < n) : (lwP f n l i).1 = 0 → i < (lwP f n l i).2.2 ∧ (lwP f n l i).2.2 ≤ n := by
  unfold lwP
  by_cases z : l = 0
  · rw [if_pos z]; exact sq_g2 f n (F := kiT f n) (by decide) h0 hi (PG.h n (suR_g f n 6))
  · rw [if_neg z]; exact sq_g2 f n (F := kiT f n) (by decide) h0 hi (PG.h n (tr_g f n (unR_g f n 6)))
theorem li_3z (f : Nat → Int) (n k m l i a b p a' b' p' : Int) (hp : b01 (PO n i a p) = 1) (hl : l = 0) (ht : tkF f n p = 1010) (h : b01 (RR (lwP f n l i) a b a' b' p') = 1) : b01 (RR (liP f n k m i) a b a' b' p') = 1 :=
  li_3 f n k m i a b p a' b' p' hp ht (rr_u _ _ a b a' b' p' h (fun _ => by unfold lwP; rw [if_pos hl]))
theorem li_4z (f : Nat → Int) (n k m l i a b p a' b' p' : Int) (hp : b01 (PO n i a p) = 1) (hl : ¬ l = 0) (ht : tkF f n p = 1011) (h : b01 (RR (lwP f n l i) a b a' b' p') = 1) : b01 (RR (liP f n k m i) a b a' b' p') = 1 :=
  li_4 f n k m i a b p a' b' p' hp ht (rr_u _ _ a b a' b' p' h (fun _ => by unfold lwP; rw [if_neg hl]))
/-- behind a token, a token that is taken or a fault: from the place ahead of both -/
theorem rr_2 (T : Int × Int × Int) (a b a1 b1 a' b' p' : Int) (h : b01 (RR T a1 b1 a' b' p') = 1) (ha : a1 = a) (hb : b1 = b) : b01 (RR T a b a' b' p') = 1 := rr_fr T a b a1 b1 a' b' p' h ha hb
theorem po_lw (f : Nat → Int) (n l i a b p a' b' p' : Int) (hp : b01 (PO n i a p) = 1) (ht : a = 0 → ¬ tkF f n p = 3001) (hr : b01 (RR (lwP f n l i) a b a' b' p') = 1) : b01 (PO n (lwP f n l i).2.2 a' p') = 1 := b01_i (by
  by_cases z : a' = 0
  · rcases b01_e hr with q | ⟨q1, q2, q3⟩
    · omega
    · have q := po_0 hp q1
      have ht := ht q1
      rw [q.1] at ht
      have g := lw_g f n l i q.2.1 (tk_lt f n q.2.1 ht) (by omega)
      exact Or.inr ⟨by omega, by omega, g.2⟩
  · exact Or.inl z)
theorem li_l (f : Nat → Int) (n k m l i a b p a' b' p' : Int) (hp : b01 (PO n i a p) = 1) (ht : (l = 0 ∧ tkF f n p = 1010) ∨ (¬ l = 0 ∧ tkF f n p = 1011)) (h : b01 (RR (lwP f n l i) a b a' b' p') = 1) : b01 (RR (liP f n k m i) a b a' b' p') = 1 := by
  rcases ht with ht | ht
  · exact li_3z f n k m l i a b p a' b' p' hp ht.1 ht.2 h
  · exact li_4z f n k m l i a b p a' b' p' hp ht.1 ht.2 h
theorem lm_w (f : Nat → Int) (n s k0 m0 l0 i c c' k m l a b a' b' p' : Int) (hc : c' ≤ c) (h : b01 (LM f n s k0 m0 l0 i c k m l a b a' b' p') = 1) : b01 (LM f n s k0 m0 l0 i c' k m l a b a' b' p') = 1 := b01_i (by
  rcases b01_e h with q | ⟨q1, q2, q3, q4, q5, q6, q7, q8⟩ | q
  · exact Or.inl q
  · exact Or.inr (Or.inl ⟨q1, q2, q3, q4, q5, q6, q7, by omega⟩)
  · exact Or.inr (Or.inr q))
theorem tpm_c2 {f : Nat → Int} {n : Int} {M M' : mm_M} (hT : b01 (TPM f n M) = 1) (h101 : M'.1 101 = M.1 101) (h8 : (M'.1 98 8).toInt = n) : b01 (TPM f n M') = 1 := b01_i ⟨fun k hk => by rw [h101]; exact (b01_e hT).1 k hk, h8, (b01_e hT).2.2⟩
theorem tw_c2 (f : Nat → Int) (i j x y : Int) : ¬ i = j ∨ ¬ x = y ∨ kdF (twF f i x) = kdF (twF f j y) := by
  by_cases h : i = j
  · by_cases h2 : x = y
    · exact Or.inr (Or.inr (by rw [h, h2]))
    · exact Or.inr (Or.inl h2)
  · exact Or.inl h
theorem addI_x (a b : Int) : (a + b < -2147483648 ∨ 2147483647 < a + b) ∨ addI a b = a + b := by
  by_cases h : -2147483648 ≤ a + b ∧ a + b ≤ 2147483647
  · refine Or.inr ?_
    unfold addI
    rw [show sI a + sI b = sI (a + b) from (Int32.ofInt_add a b).symm]
    exact Int32.toInt_ofInt_of_le (by omega) (by omega)
  · exact Or.inl (by omega)
theorem ck_e {a' k m l k0 m0 l0 : Int} (h : b01 (CK a' k m l k0 m0 l0) = 1) : ¬ a' = 0 ∨ (k = k0 ∧ m = m0 ∧ l = l0) := b01_e h
/-- no fault behind: none ahead -/
theorem rr_c (T : Int × Int × Int) (a b a' b' p' : Int) (h : b01 (RR T a b a' b' p') = 1) : ¬ a' = 0 ∨ a = 0 := by
  rcases b01_e h with q | q
  · exact Or.inl (by omega)
  · exact Or.inr q.1
theorem ck_z (a' k m l k0 m0 l0 : Int) (h : b01 (CK a' k m l k0 m0 (l0 + 1)) = 1) (hk : k0 = 0) (hm : m0 = 0) (hl : l0 = 0) : b01 (CK a' k m l 0 0 1) = 1 := by
  subst hk hm hl; exact h
theorem ck_t (a2 k2 m2 l2 K Mm L a' k' m' l' : Int) (h1 : b01 (CK a2 k2 m2 l2 K Mm L) = 1) (h2 : b01 (CK a' k' m' l' k2 m2 (l2 + 1)) = 1) (h : ¬ a' = 0 ∨ a2 = 0) : b01 (CK a' k' m' l' K Mm (L + 1)) = 1 := b01_i (by
  rcases h with h | h
  · exact Or.inl h
  · have q1 := ck_0 h1 h
    rcases b01_e h2 with q2 | q2
    · exact Or.inl q2
    · exact Or.inr ⟨by omega, by omega, by omega⟩)
theorem lm_1z (f : Nat → Int) (n i k m l a b p : Int) (hc : b01 (CK a k m l 0 0 1) = 1) (hp : b01 (PO n i a p) = 1) : b01 (LM f n i 0 0 1 i 0 k m l a b a b p) = 1 := by
  by_cases z : a = 0
  · obtain ⟨h1, h2, h3⟩ := ck_0 hc z
    exact lm_1 f n i k m l a b p h1 h2 h3 hp
  · exact b01_i (Or.inl ⟨z, rfl, rfl⟩)
theorem lm_sz (f : Nat → Int) (n s k0 m0 l0 i c k m l a b a1 b1 p1 a2 b2 p2 a' b' p' k' m' l' : Int) (h : b01 (LM f n s k0 m0 l0 i c k m l a b a1 b1 p1) = 1) (h0 : a1 = 0) (ht : ¬ tkF f n p1 = 3001) (h2 : b01 (RR (liP f n k m i) a1 b1 a2 b2 p2) = 1) (hc : b01 (CK a' k' m' l' (inc (tkF f n i) 1003 k) (inc (tkF f n i) 1009 m) (l + 1)) = 1) (h3 : b01 (RR (exP f n 2059 (liP f n k m i).2.2) a2 b2 a' b' p') = 1) : b01 (LM f n s k0 m0 l0 (exP f n 2059 (liP f n k m i).2.2).2.2 (c + 1) k' m' l' a b a' b' p') = 1 := by
  by_cases z : a' = 0
  · obtain ⟨q1, q2, q3⟩ := ck_0 hc z
    exact lm_s f n s k0 m0 l0 i c k m l a b a1 b1 p1 a2 b2 p2 a' b' p' k' m' l' l h h0 ht h2 (ck_i _ _ _ _ _ _ _ (Or.inr ⟨q1, q2, rfl⟩)) h3 q3
  · have q := lm_s f n s k0 m0 l0 i c k m l a b a1 b1 p1 a2 b2 p2 a' b' p' (inc (tkF f n i) 1003 k) (inc (tkF f n i) 1009 m) (l + 1) l h h0 ht h2 (b01_i (Or.inr ⟨rfl, rfl, rfl⟩)) h3 rfl
    rcases b01_e q with w | w | w
    · exact b01_i (Or.inl w)
    · exact absurd w.2.1 z
    · exact b01_i (Or.inr (Or.inr w))
/-! THE REFERENCE'S CONTENTS while it reads: fresh[] is the row -/
def AGR (M : mm_M) (_ : Int × Int × Int × Int) (T : Nat → Int) : Prop := ∀ j : Nat, j < 1181 → (M.1 102 j).toInt = T j
theorem agr_c {M N : mm_M} (e : N.1 102 = M.1 102) : ∀ q T, AGR M q T → AGR N q T := fun _ T h j hj => by rw [e]; exact h j hj
theorem agr_w {M N : mm_M} {k : Nat} {x : Int} (e : N = wI M 102 k (sI x)) (hx : -2147483648 ≤ x ∧ x ≤ 2147483647) (q : Int × Int × Int × Int) (T : Nat → Int) (h : AGR M q T) : AGR N q (uT T k x) := fun j hj => by
  by_cases z : j = k
  · rw [z, wI_at e, sI_t hx, uT_s]
  · rw [wI_ne e z, uT_o z]; exact h j hj
theorem agr_em {M M1 N : mm_M} {c x y : Int} (a : Int) (e2 : M1 = wI M 102 (281 + c).toNat (sI x)) (e1 : N = wI M1 102 280 (sI y)) (hc : c = (M.1 102 280).toInt) (hy : y = c + 1 ∧ 0 ≤ c ∧ c < 900) (hx : -2147483648 ≤ x ∧ x ≤ 2147483647) : b01 (CL AGR a M N [x]) = 1 := b01_i (Or.inr (fun q T h => by
  have c0 : c = T 280 := by rw [hc]; exact h 280 (by decide)
  have w1 := agr_w e2 hx q T h
  have w2 := agr_w e1 (by omega) q _ w1
  show AGR N q (emT x T)
  unfold emT
  rw [← c0, ← hy.1]
  exact w2))
theorem sum_c {t c : Int} (h : (t = 2043 ∧ c = 3000) ∨ (t = 2045 ∧ c = 3001)) : [c] = [cmF t] := by
  rcases h with ⟨rfl, rfl⟩ | ⟨rfl, rfl⟩
  · rw [cm_tab.1]
  · rw [cm_tab.2.1]
/-- a sign between two sums, as its code -/
def SGQ (a t c : Int) : Prop := ¬ a = 0 ∨ ((t = 2061 ∧ c = 3003) ∨ (t = 2060 ∧ c = 3004) ∨ (t = 2062 ∧ c = 3005))
theorem sg_q {a t c : Int} (h : b01 (SGQ a t c) = 1) (z : a = 0) : c = cmF t := by
  rcases (b01_e h).resolve_left (fun w => w z) with ⟨rfl, rfl⟩ | ⟨rfl, rfl⟩ | ⟨rfl, rfl⟩
  · exact cm_tab.2.2.2.1.symm
  · exact cm_tab.2.2.2.2.1.symm
  · exact cm_tab.2.2.2.2.2.1.symm
/-! rows that are well made: no group of a kind to come, no mind of a buyer to come -/
def WZ (T : Nat → Int) : Prop := (0 ≤ T 280) ∧ (0 ≤ T 26 ∧ T 26 ≤ 8) ∧ (0 ≤ T 1 ∧ T 1 ≤ 6) ∧ (∀ k : Int, T 26 ≤ k → k < 8 → T (41 + k).toNat = 0) ∧ ∀ b : Int, T 1 ≤ b → b < 6 → T (14 + b).toNat = 0
def AGM (M : mm_M) (q : Int × Int × Int × Int) (T : Nat → Int) : Prop := AGR M q T ∧ WZ T
section RM
variable (f : Nat → Int) (n : Int)
theorem lpT_u {q : Int → Bool} {st : Int → Int × Int × Int} {GT : Int → (Nat → Int) → Nat → Int} {j : Nat} {v : Int} (hG : ∀ i T, GT i (uT T j v) = uT (GT i T) j v) : ∀ (k : Nat) (i : Int) (T : Nat → Int), lpT q st GT k i (uT T j v) = uT (lpT q st GT k i T) j v
  | 0, _, _ => rfl
  | k + 1, i, T => by
    rw [lpT, lpT]
    split
    · split
      · rw [hG i T]; exact lpT_u hG k _ _
      · rfl
    · rfl
theorem uT_c {T : Nat → Int} {j k : Nat} {v w : Int} (h : j ≠ k) : uT (uT T j v) k w = uT (uT T k w) j v := by
  funext i
  unfold uT
  by_cases a : i = k
  · rw [if_pos a, if_neg (by omega), if_pos a]
  · rw [if_neg a]
    by_cases b : i = j
    · rw [if_pos b, if_pos b]
    · rw [if_neg b, if_neg b, if_neg a]
theorem fgT_u {k : Int} (hk : 0 ≤ k) {j : Nat} {v : Int} (hj : j < 27) (i : Int) (T : Nat → Int) : fgT f n k i (uT T j v) = uT (fgT f n k i T) j v := lpT_u (fun i T => by
  unfold fgC
  split
  · exact uT_c (by omega)
  · split
    · rw [uT_o (by omega)]; exact uT_c (by omega)
    · split
      · rw [uT_o (by omega)]; exact uT_c (by omega)
      · rfl) _ _ _
theorem mkT_u {k : Int} (hk : 0 ≤ k) {j : Nat} {v : Int} (hj : j < 14) (i : Int) (T : Nat → Int) : mkT f n k i (uT T j v) = uT (mkT f n k i T) j v := lpT_u (fun i T => by
  unfold mkC
  split
  · exact uT_c (by omega)
  · split
    · exact uT_c (by omega)
    · rfl) _ _ _
theorem uT_z {T : Nat → Int} {k : Nat} {v : Int} (h : T k = v) : uT T k v = T := by
  funext j
  unfold uT
  by_cases c : j = k
  · rw [if_pos c, c, h]
  · rw [if_neg c]
/-- a kind's row, as the reference writes it -/
theorem kiR {k p x : Int} (P : Int) {T : Nat → Int} (hk : 0 ≤ k ∧ k < 8) (hz : T (41 + k).toNat = 0) (hx : x = tkF f n p) : uT (fgT f n k P (uT T (33 + k).toNat x)) 26 (k + 1) = fgT f n k P (kiB f n k p T) := by
  unfold kiB
  rw [← hx, ← fgT_u f n hk.1 (j := 26) (v := k + 1) (by decide), uT_z (T := uT T (33 + k).toNat x) (k := (41 + k).toNat) (v := 0) (by rw [uT_o (by omega)]; exact hz)]
theorem buR {k p x : Int} (P : Int) {T : Nat → Int} (hk : 0 ≤ k ∧ k < 6) (hz : T (14 + k).toNat = 0) (hx : x = tkF f n p) : uT (mkT f n k P (uT (uT T (8 + k).toNat x) (20 + k).toNat 1)) 1 (k + 1) = mkT f n k P (buB f n k p T) := by
  unfold buB
  rw [← hx, ← mkT_u f n hk.1 (j := 1) (v := k + 1) (by decide), uT_z (T := uT T (8 + k).toNat x) (k := (14 + k).toNat) (v := 0) (by rw [uT_o (by omega)]; exact hz)]
theorem lpT_g {q : Int → Bool} {st : Int → Int × Int × Int} {GT : Int → (Nat → Int) → Nat → Int} {j : Nat} (hG : ∀ i T, GT i T j = T j) (k : Nat) (i : Int) (T : Nat → Int) : lpT q st GT k i T j = T j := lpT_k hG k i T
theorem fgT_o {k : Int} (hk : 0 ≤ k) {j : Nat} (hj : j ≠ (41 + k).toNat ∧ j ≠ 27 ∧ j ≠ 28) (i : Int) (T : Nat → Int) : fgT f n k i T j = T j := lpT_k (fun i T => by
  unfold fgC
  repeat' split
  · exact uT_o hj.1
  · exact uT_o hj.2.1
  · exact uT_o hj.2.2
  · rfl) _ _ _
theorem mkT_o {k : Int} {j : Nat} (hj : j ≠ (14 + k).toNat ∧ j ≠ (20 + k).toNat) (i : Int) (T : Nat → Int) : mkT f n k i T j = T j := lpT_k (fun i T => by
  unfold mkC
  repeat' split
  · exact uT_o hj.1
  · exact uT_o hj.2
  · rfl) _ _ _
theorem wz_ki {T : Nat → Int} (h : WZ T) {k : Int} (hk : k = T 26 ∧ k < 8) (i : Int) : WZ (kiC f n k i T) := by
  obtain ⟨h0, h1, h2, h3, h4⟩ := h
  have v : ∀ j : Nat, j ≠ 26 → j ≠ 27 → j ≠ 28 → j ≠ (33 + k).toNat → j ≠ (41 + k).toNat → kiC f n k i T j = T j := fun j a b c d e => by
    unfold kiC; rw [fgT_o f n (by omega) ⟨e, b, c⟩]; unfold kiB; rw [uT_o a, uT_o e, uT_o d]
  have v26 : kiC f n k i T 26 = k + 1 := by unfold kiC; rw [fgT_o f n (by omega) (by omega)]; unfold kiB; exact uT_s
  refine ⟨by rw [v 280 (by omega) (by omega) (by omega) (by omega) (by omega)]; exact h0, by rw [v26]; omega, by rw [v 1 (by omega) (by omega) (by omega) (by omega) (by omega)]; exact h2, fun j a b => ?_, fun j a b => ?_⟩
  · rw [v26] at a; rw [v _ (by omega) (by omega) (by omega) (by omega) (by omega)]; exact h3 j (by omega) b
  · rw [v 1 (by omega) (by omega) (by omega) (by omega) (by omega)] at a; rw [v _ (by omega) (by omega) (by omega) (by omega) (by omega)]; exact h4 j a b
theorem wz_bu {T : Nat → Int} (h : WZ T) {k : Int} (hk : k = T 1 ∧ k < 6) (i : Int) : WZ (buC f n k i T) := by
  obtain ⟨h0, h1, h2, h3, h4⟩ := h
  have v : ∀ j : Nat, j ≠ 1 → j ≠ (8 + k).toNat → j ≠ (14 + k).toNat → j ≠ (20 + k).toNat → buC f n k i T j = T j := fun j a b c d => by
    unfold buC; rw [mkT_o f n ⟨c, d⟩]; unfold buB; rw [uT_o a, uT_o d, uT_o c, uT_o b]
  have v1 : buC f n k i T 1 = k + 1 := by unfold buC; rw [mkT_o f n (by omega)]; unfold buB; exact uT_s
  refine ⟨by rw [v 280 (by omega) (by omega) (by omega) (by omega)]; exact h0, by rw [v 26 (by omega) (by omega) (by omega) (by omega)]; exact h1, by rw [v1]; omega, fun j a b => ?_, fun j a b => ?_⟩
  · rw [v 26 (by omega) (by omega) (by omega) (by omega)] at a; rw [v _ (by omega) (by omega) (by omega) (by omega)]; exact h3 j a b
  · rw [v1] at a; rw [v _ (by omega) (by omega) (by omega) (by omega)]; exact h4 j (by omega) b
theorem emL_280 : ∀ (L : List Int) (T : Nat → Int), emL L T 280 = T 280 + (L.length : Int)
  | [], T => by show T 280 = T 280 + ((0 : Nat) : Int); omega
  | c :: L, T => by
    show emL L (emT c T) 280 = _
    rw [emL_280 L (emT c T), show emT c T 280 = T 280 + 1 by unfold emT; exact uT_s, List.length_cons]
    omega
theorem wz_lw {T : Nat → Int} (h : WZ T) (l : Nat) (hl : l ≤ 1) (L : List Int) : WZ (lwC l L T) := by
  obtain ⟨h0, h1, h2, h3, h4⟩ := h
  have v : ∀ j : Nat, j < 280 → (j < 2 ∨ 8 ≤ j) → lwC l L T j = T j := fun j a b => by rw [lwC_o hl L T b]; exact emL_o L T h0 a
  refine ⟨?_, by rw [v 26 (by omega) (by omega)]; exact h1, by rw [v 1 (by omega) (by omega)]; exact h2, fun j a b => ?_, fun j a b => ?_⟩
  · rw [lwC_o hl L T (by omega), emL_280]; omega
  · rw [v 26 (by omega) (by omega)] at a; rw [v _ (by omega) (by omega)]; exact h3 j a b
  · rw [v 1 (by omega) (by omega)] at a; rw [v _ (by omega) (by omega)]; exact h4 j a b
theorem wz_0 {T : Nat → Int} (h : WZ T) (v : Int) : WZ (uT T 0 v) := by
  obtain ⟨h0, h1, h2, h3, h4⟩ := h
  unfold WZ
  rw [uT_o (show 280 ≠ 0 by decide), uT_o (show 26 ≠ 0 by decide), uT_o (show 1 ≠ 0 by decide)]
  exact ⟨h0, h1, h2, fun j a b => by rw [uT_o (by omega)]; exact h3 j a b, fun j a b => by rw [uT_o (by omega)]; exact h4 j a b⟩
/-! the reference's lines -/
theorem kim_x {a k x p : Int} {P : Int} {M M3 Mp Mf N : mm_M} (h : ∀ q T, AGR M q T → AGR M3 q T) (e1 : Mp = wI M3 102 (33 + k).toNat (sI x)) (hf : b01 (CT AGR a Mp Mf (fgT f n k P)) = 1) (e2 : N = wI Mf 102 26 (sI (k + 1))) (hk : k = (M.1 102 26).toInt ∧ 0 ≤ k ∧ k < 8 ∧ (-2147483648 ≤ x ∧ x ≤ 2147483647)) (hx : ¬ a = 0 ∨ x = tkF f n p) {i : Int} (hp : p = (exP f n 1004 (nxF f n i)).2.2) (hP : P = (nuP f n 1 99 p).2.2) : b01 (CT AGM a M N (kiC f n k i)) = 1 := b01_i (by
  by_cases z : a = 0
  · refine Or.inr (fun q T y => ?_)
    have k26 : k = T 26 := by rw [hk.1]; exact y.1 26 (by decide)
    have w1 := agr_w e1 hk.2.2.2 q _ (h q T y.1)
    have w2 := (b01_e hf).resolve_left (fun u => u z) q _ w1
    have w3 := agr_w e2 (by omega) q _ w2
    rw [kiR f n P ⟨hk.2.1, hk.2.2.1⟩ (y.2.2.2.2.1 k (by omega) hk.2.2.1) (hx.resolve_left (fun u => u z))] at w3
    refine ⟨?_, wz_ki f n y.2 ⟨k26, hk.2.2.1⟩ i⟩
    unfold kiC
    rw [← hp, ← hP]; exact w3
  · exact Or.inl z)
theorem bum_x {a k x p : Int} {P : Int} {M M3 Mp Mo Mf N : mm_M} (h : ∀ q T, AGR M q T → AGR M3 q T) (e1 : Mp = wI M3 102 (8 + k).toNat (sI x)) (e3 : Mo = wI Mp 102 (20 + k).toNat (sI 1)) (hf : b01 (CT AGR a Mo Mf (mkT f n k P)) = 1) (e2 : N = wI Mf 102 1 (sI (k + 1))) (hk : k = (M.1 102 1).toInt ∧ 0 ≤ k ∧ k < 6 ∧ (-2147483648 ≤ x ∧ x ≤ 2147483647)) (hx : ¬ a = 0 ∨ x = tkF f n p) {i : Int} (hp : p = (exP f n 1001 (nxF f n i)).2.2) (hP : P = (nuP f n 0 999 p).2.2) : b01 (CT AGM a M N (buC f n k i)) = 1 := b01_i (by
  by_cases z : a = 0
  · refine Or.inr (fun q T y => ?_)
    have k1 : k = T 1 := by rw [hk.1]; exact y.1 1 (by decide)
    have w1 := agr_w e3 (by omega) q _ (agr_w e1 hk.2.2.2 q _ (h q T y.1))
    have w2 := (b01_e hf).resolve_left (fun u => u z) q _ w1
    have w3 := agr_w e2 (by omega) q _ w2
    rw [buR f n P ⟨hk.2.1, hk.2.2.1⟩ (y.2.2.2.2.2 k (by omega) hk.2.2.1) (hx.resolve_left (fun u => u z))] at w3
    refine ⟨?_, wz_bu f n y.2 ⟨k1, hk.2.2.1⟩ i⟩
    unfold buC
    rw [← hp, ← hP]; exact w3
  · exact Or.inl z)
theorem lwm_x {a x y z1 : Int} {M M2 M4 Ma Mb N : mm_M} {L : List Int} (l : Nat) (hl : l ≤ 1) (h : ∀ q T, AGR M q T → AGR M2 q T) (h4 : b01 (CL AGR a M2 M4 L) = 1) (ea : Ma = wI M4 102 (2 + l) (sI z1)) (eb : Mb = wI Ma 102 (4 + l) (sI x)) (ec : N = wI Mb 102 (6 + l) (sI y)) (hx : x = (M2.1 102 280).toInt ∧ y = (M4.1 102 280).toInt - x ∧ z1 = 1) (hb : (-2147483648 ≤ x ∧ x ≤ 2147483647) ∧ (-2147483648 ≤ y ∧ y ≤ 2147483647)) : b01 (CT AGM a M N (lwC l L)) = 1 := b01_i (by
  by_cases z : a = 0
  · refine Or.inr (fun q T w => ?_)
    have w2 := h q T w.1
    have w4 := (b01_e h4).resolve_left (fun u => u z) q T w2
    have x0 : x = T 280 := by rw [hx.1]; exact w2 280 (by decide)
    have y0 : y = emL L T 280 - T 280 := by rw [hx.2.1, ← x0, w4 280 (by decide)]
    have w5 := agr_w ec hb.2 q _ (agr_w eb hb.1 q _ (agr_w ea (by omega) q _ w4))
    refine ⟨?_, wz_lw w.2 l hl L⟩
    unfold lwC
    rw [← y0, ← x0, ← hx.2.2]; exact w5
  · exact Or.inl z)
theorem lnm_x {a x : Int} {M M1 N : mm_M} (h : ∀ q T, AGR M q T → AGR M1 q T) (e : N = wI M1 102 0 (sI x)) (hx : ¬ a = 0 ∨ ((-2147483648 ≤ x ∧ x ≤ 2147483647) ∧ x = (M1.1 102 0).toInt + 1)) : b01 (CT AGM a M N (fun T => uT T 0 (T 0 + 1))) = 1 := b01_i (by
  by_cases z : a = 0
  · refine Or.inr (fun q T w => ?_)
    have hx := hx.resolve_left (fun u => u z)
    have w1 := h q T w.1
    have x0 : x = T 0 + 1 := by rw [hx.2, w1 0 (by decide)]
    show AGM N q (uT T 0 (T 0 + 1))
    rw [← x0]
    exact ⟨agr_w e hx.1 q T w1, wz_0 w.2 x⟩
  · exact Or.inl z)
end RM
def UJW (f : Nat → Int) (n : Int) (r : Nat) (i a c : Int) : Prop := ¬ a = 0 ∨ uLR f n r i = sLR f n r i ++ (sLR f n r (sjP f n r i).2.2 ++ [c])
theorem uj_1 (f : Nat → Int) (n : Int) (r : Nat) {i a0 b0 p0 a1 b1 p1 a c : Int} (hp : b01 (PO n i a0 p0) = 1) (ht : ¬ a0 = 0 ∨ (¬ tkF f n p0 = 1016 ∧ ¬ tkF f n p0 = 2091)) (hr : b01 (RR (suR f n r i) a0 b0 a1 b1 p1) = 1) (hq : b01 (PO n (suR f n r i).2.2 a1 p1) = 1) (h1 : ¬ a = 0 ∨ a1 = 0) (hs : ¬ a = 0 ∨ ((tkF f n p1 = 2061 ∧ c = 3003) ∨ (tkF f n p1 = 2060 ∧ c = 3004) ∨ (tkF f n p1 = 2062 ∧ c = 3005))) : b01 (UJW f n r i a c) = 1 := b01_i (by
  by_cases z : a = 0
  · right
    have h1 := h1.resolve_left (fun w => w z)
    have hs := hs.resolve_left (fun w => w z)
    have z0 := rr_z hr h1
    have e := un_l4 f n r hp z0 (ht.resolve_left (fun w => w z0)) hq h1
    have q := (po_0 hq h1).1
    have s : (sjP f n r i).2.2 = nxF f n (suR f n r i).2.2 := by
      unfold sjP sqP
      rw [if_pos (rr_v hr h1).1]
      unfold cjP
      rw [← q, if_pos (by omega)]
    have cc : cmF (tkF f n p1) = c := by
      rcases hs with ⟨x, y⟩ | ⟨x, y⟩ | ⟨x, y⟩
      · rw [x, y]; exact cm_tab.2.2.2.1
      · rw [x, y]; exact cm_tab.2.2.2.2.1
      · rw [x, y]; exact cm_tab.2.2.2.2.2.1
    rw [e, s, cc]
  · exact Or.inl z)
/-! flags of the reference -/
section RN
variable (f : Nat → Int) (n : Int)
theorem fgm_1 {a i p k x : Int} {M M2 N : mm_M} (h : ∀ q T, AGR M q T → AGR M2 q T) (w : ∀ q T, AGR M2 q T → AGR N q (uT T (41 + k).toNat x)) {a0 : Int} (hp : b01 (PO n i a0 p) = 1) (h0 : a0 = 0) (ht : tkF f n p = 1005) (hx : ¬ a = 0 ∨ x = tkF f n (nxF f n i)) : b01 (CT AGR a M N (fgC f n k i)) = 1 := b01_i (by
  obtain ⟨rfl, _⟩ := po_0 hp h0
  by_cases z : a = 0
  · refine Or.inr (fun q T y => ?_)
    unfold fgC
    rw [if_pos ht, ← hx.resolve_left (fun u => u z)]
    exact w q T (h q T y)
  · exact Or.inl z)
theorem fgm_2 {i p k y : Int} {M M2 N : mm_M} (a : Int) (h : ∀ q T, AGR M q T → AGR M2 q T) (w : ∀ q T, AGR M2 q T → AGR N q (uT T 27 (orI y (pw2 k)))) (hy : y = (M2.1 102 27).toInt) {a0 : Int} (hp : b01 (PO n i a0 p) = 1) (h0 : a0 = 0) (ht : tkF f n p = 1007) : b01 (CT AGR a M N (fgC f n k i)) = 1 := b01_i (Or.inr (fun q T z => by
  obtain ⟨rfl, _⟩ := po_0 hp h0
  have z2 := h q T z
  have e : y = T 27 := by rw [hy]; exact z2 27 (by decide)
  unfold fgC
  rw [if_neg (by omega), if_pos ht, ← e]
  exact w q T z2))
theorem fgm_3 {i p k y : Int} {M M2 N : mm_M} (a : Int) (h : ∀ q T, AGR M q T → AGR M2 q T) (w : ∀ q T, AGR M2 q T → AGR N q (uT T 28 (orI y (pw2 k)))) (hy : y = (M2.1 102 28).toInt) {a0 : Int} (hp : b01 (PO n i a0 p) = 1) (h0 : a0 = 0) (ht : tkF f n p = 1012) : b01 (CT AGR a M N (fgC f n k i)) = 1 := b01_i (Or.inr (fun q T z => by
  obtain ⟨rfl, _⟩ := po_0 hp h0
  have z2 := h q T z
  have e : y = T 28 := by rw [hy]; exact z2 28 (by decide)
  unfold fgC
  rw [if_neg (by omega), if_neg (by omega), if_pos ht, ← e]
  exact w q T z2))
/-- a loop that ends with a step that takes nothing -/
theorem ltc_f {A : mm_M → Int × Int × Int × Int → (Nat → Int) → Prop} {FT : Int → (Nat → Int) → Nat → Int} {G : Int → Int × Int × Int} {C : Int → (Nat → Int) → Nat → Int} {q : Int → Prop} (hq : TQ n FT G C q) {s i a1 b1 p1 a2 b2 p2 : Int} {MB M N : mm_M} (h : b01 (LTW A a1 FT s i 1 MB M) = 1) (hp : b01 (PO n i a1 p1) = 1) (hr : b01 (RR (G i) a1 b1 a2 b2 p2) = 1) (hm' : ¬ a2 = 0 ∨ b01 (q i) = 0) (h2 : b01 (CT A a2 M N (C i)) = 1) : b01 (CT A a2 MB N (FT s)) = 1 := b01_i (by
  by_cases c : a2 = 0
  · right
    obtain ⟨g, e1, e2⟩ := (b01_e (ltc_s n hq (m' := 0) h hp (by decide) hr (hm'.resolve_left (fun w => w c)).symm h2)).resolve_left (fun w => w c)
    intro q' T x
    rw [e1 T, if_pos rfl]
    exact e2 q' T x
  · exact Or.inl c)
/-- a law's codes -/
noncomputable def lwX (l p : Int) : List Int := if l = 0 then sLR f n 6 p else trL f n (unR f n 6) (uLR f n 6) p
theorem lwx_0 {l p : Int} (h : l = 0) : lwX f n l p = sLR f n 6 p := if_pos h
theorem lwx_1 {l p : Int} (h : ¬ l = 0) : lwX f n l p = trL f n (unR f n 6) (uLR f n 6) p := if_neg h
theorem lwm_w {a l i : Int} {M N : mm_M} (h : b01 (CT AGM a M N (lwC l.toNat (lwX f n l (exP f n 2058 (nxF f n i)).2.2))) = 1) (z : l = 0) : b01 (CT AGM a M N (waC f n i)) = 1 := ct_e h (fun _ T => by subst z; rw [lwx_0 f n rfl]; rfl)
theorem lwm_l {a l i : Int} {M N : mm_M} (h : b01 (CT AGM a M N (lwC l.toNat (lwX f n l (exP f n 2058 (nxF f n i)).2.2))) = 1) (z : l = 1) : b01 (CT AGM a M N (leC f n i)) = 1 := ct_e h (fun _ T => by subst z; rw [lwx_1 f n (by decide)]; rfl)
theorem lx_q {A : mm_M → Int × Int × Int × Int → (Nat → Int) → Prop} {a1 a2 a3 s i k b k' b' p1 x1 x2 x3 y2 y3 l1 l2 : Int} {MB M M2 N : mm_M} (h : b01 (LX A f n a1 s i k b MB M) = 1) (hp : b01 (PO n i a1 p1) = 1) (ht : ¬ tkF f n p1 = 3001) (hr : b01 (RR (liP f n k b i) a1 x1 a2 x2 y2) = 1) (h2 : b01 (CT A a2 M M2 (liC f n k b i)) = 1) (hr3 : b01 (RR (exP f n 2059 (liP f n k b i).2.2) a2 x2 a3 x3 y3) = 1) (h3 : b01 (CT A a3 M2 N (fun T => uT T 0 (T 0 + 1))) = 1) (hc : b01 (CK a3 k' b' l2 (inc (tkF f n i) 1003 k) (inc (tkF f n i) 1009 b) l1) = 1) : b01 (LX A f n a3 s (exP f n 2059 (liP f n k b i).2.2).2.2 k' b' MB N) = 1 := by
  by_cases z : a3 = 0
  · exact lx_p f n h hp ht hr h2 hr3 h3 (l2 := l2) (l1 := l1) (b01_i (Or.inr ((b01_e hc).resolve_left (fun w => w z))))
  · exact b01_i (Or.inl z)
end RN
theorem ct_i {A : mm_M → Int × Int × Int × Int → (Nat → Int) → Prop} {M N : mm_M} (h : b01 (CT A 0 M N (fun T => T)) = 1) : ∀ q T, A M q T → A N q T := (b01_e h).resolve_left (fun w => w rfl)
theorem agm_c {M N : mm_M} (h : ∀ q T, AGR M q T → AGR N q T) : ∀ q T, AGM M q T → AGM N q T := fun q T x => ⟨h q T x.1, x.2⟩
theorem agr_t {M N O : mm_M} (h : ∀ q T, AGR M q T → AGR N q T) (h2 : ∀ q T, AGR N q T → AGR O q T) : ∀ q T, AGR M q T → AGR O q T := fun q T x => h2 q T (h q T x)
theorem agm_0 {M : mm_M} (h : b01 (ZR M 1181) = 1) (q : Int × Int × Int × Int) : AGM M q (fun _ => 0) := ⟨fun j hj => by rw [b01_e h j (by omega)]; rfl, by decide, by decide, by decide, fun _ _ _ => rfl, fun _ _ _ => rfl⟩
/-- the row that the reference keeps is what the text tells -/
def RWS (f : Nat → Int) (n : Int) (N : mm_M) : Prop := ∀ j : Nat, j < 1181 → (N.1 99 j).toInt = rdC f n j
theorem rws_i {f : Nat → Int} {n a : Int} {B C N : mm_M} (h : b01 (RDX AGM a f n B) = 1) (h0 : a = 0) (e : C.1 102 = B.1 102) (hc : b01 (CPX N C 0 102 0 1181) = 1) : b01 (RWS f n N) = 1 := b01_i (fun j hj => by
  obtain ⟨q, x⟩ := (b01_e h).resolve_left (fun w => w h0)
  rw [(b01_e hc).1 j (by omega) (by omega), e, ← x.1 j hj]
  simp)
/-- nothing of it is another -/
def S99 (M N : mm_M) : Prop := N.1 99 = M.1 99
/-- the images' rows are as they were -/
def RWH (M N : mm_M) : Prop := ∀ j : Nat, 1181 ≤ j → N.1 99 j = M.1 99 j
theorem rwh_i {M B C N : mm_M} (h : b01 (S99 M B) = 1) (e : C.1 99 = B.1 99) (hc : b01 (CPX N C 0 102 0 1181) = 1) : b01 (RWH M N) = 1 := b01_i (fun j hj => by
  rw [(b01_e hc).2.1 j (by omega), e, show B.1 99 = M.1 99 from b01_e h])
end
section
/-! images of the reference, rows -/
theorem im_x {M B N : mm_M} {f : Nat → Int32} {i : Int} (h : b01 (CPX M B (1181 * (i + 1)).toNat 99 0 1181) = 1) (hB : B.1 99 = f) (hN : N.1 99 = M.1 99) : b01 (N.1 99 = imS f i) = 1 := b01_i (by
  have h := b01_e h
  unfold CPX at h
  rw [hB] at h
  rw [hN]
  funext j
  unfold imS
  by_cases c : (1181 * (i + 1)).toNat ≤ j ∧ j < (1181 * (i + 1)).toNat + 1181
  · rw [if_pos c, h.1 j c.1 (by omega), Nat.zero_add]
  · rw [if_neg c]; exact h.2.1 j (by omega))
theorem re_x {M B N : mm_M} {f : Nat → Int32} {i : Int} (h : b01 (CPX M B 0 99 (1181 * (i + 1)).toNat 1181) = 1) (hB : B.1 99 = f) (e : N = wI M 99 49 (sI 0)) : b01 (N.1 99 = reS f i) = 1 := b01_i (by
  have h := b01_e h
  unfold CPX at h
  rw [hB] at h
  rw [uR_w e]
  funext j
  unfold reS uR
  by_cases c : j < 1181
  · rw [if_pos c]
    by_cases d : j = 49
    · rw [if_pos d, if_pos d]; rfl
    · rw [if_neg d, if_neg d, h.1 j (by omega) (by omega), show j - 0 = j by omega]
  · rw [if_neg c, if_neg (by omega)]; exact h.2.1 j (by omega))
end
section
theorem iX12_shop_X12 : ∀ w ∈ wsX120, w ∈ wsX12_shop := fun w h => List.mem_cons_of_mem _ (List.mem_append_left _ (List.mem_append_right _ h))
theorem qX12_shop_1 : jj_P wsX12_shop RX12 1 11 0 (.int) := ⟨_, _, _, tyX12, rfl, by decide, iX12_shop_X12, (show Cond.fieldLink RX12 1 (TX12 0).1 (TX12 0).2.1 (TX12 0).2.2.1 ∈ wsX12_shop from List.mem_of_getElem? (i := 1) rfl), tyX12_ok, nmX12, rfl, by decide +kernel⟩
theorem fX12_shop_80 : jj_F wsX12_shop RX12 80 11 5 := ⟨_, _, _, rfl, by decide, iX12_shop_X12, (show Cond.fieldLink RX12 80 (TX12 5).1 (TX12 5).2.1 (TX12 5).2.2.1 ∈ wsX12_shop from List.mem_of_getElem? (i := 2) rfl)⟩
theorem qX12_shop_83 : jj_P wsX12_shop RX12 83 11 8 (.int) := ⟨_, _, _, tyX12, rfl, by decide, iX12_shop_X12, (show Cond.fieldLink RX12 83 (TX12 8).1 (TX12 8).2.1 (TX12 8).2.2.1 ∈ wsX12_shop from List.mem_of_getElem? (i := 3) rfl), tyX12_ok, nmX12, rfl, by decide +kernel⟩
theorem sb_11_8 : s_b 11 8 = (0, 900) := rfl
theorem ft_11_8 : (mm_ft 11)[8]? = some 0 := rfl
theorem qX12_shop_80 : jj_P wsX12_shop RX12 80 11 5 (.int) := ⟨_, _, _, tyX12, rfl, by decide, iX12_shop_X12, (show Cond.fieldLink RX12 80 (TX12 5).1 (TX12 5).2.1 (TX12 5).2.2.1 ∈ wsX12_shop from List.mem_of_getElem? (i := 2) rfl), tyX12_ok, nmX12, rfl, by decide +kernel⟩
theorem qX12_shop_101 : jj_P wsX12_shop RX12 101 11 7 (.int) := ⟨_, _, _, tyX12, rfl, by decide, iX12_shop_X12, (show Cond.fieldLink RX12 101 (TX12 7).1 (TX12 7).2.1 (TX12 7).2.2.1 ∈ wsX12_shop from List.mem_of_getElem? (i := 4) rfl), tyX12_ok, nmX12, rfl, by decide +kernel⟩
theorem sb_11_7 : s_b 11 7 = (0, 900) := rfl
theorem ft_11_7 : (mm_ft 11)[7]? = some 0 := rfl
theorem qX12_shop_126 : jj_P wsX12_shop RX12 126 11 11 (.int) := ⟨_, _, _, tyX12, rfl, by decide, iX12_shop_X12, (show Cond.fieldLink RX12 126 (TX12 11).1 (TX12 11).2.1 (TX12 11).2.2.1 ∈ wsX12_shop from List.mem_of_getElem? (i := 5) rfl), tyX12_ok, nmX12, rfl, by decide +kernel⟩
theorem sb_11_11 : s_b 11 11 = ((-2147483648), 2147483647) := rfl
theorem ft_11_11 : (mm_ft 11)[11]? = some 0 := rfl
theorem fX12_shop_24 : jj_F wsX12_shop RX12 24 11 4 := ⟨_, _, _, rfl, by decide, iX12_shop_X12, (show Cond.fieldLink RX12 24 (TX12 4).1 (TX12 4).2.1 (TX12 4).2.2.1 ∈ wsX12_shop from List.mem_of_getElem? (i := 6) rfl)⟩
theorem ft_11_4 : (mm_ft 11)[4]? = some 2 := rfl
theorem sm_11_4 : s_m 11 4 = 0 := rfl
theorem ak_48 : s_ak 48 = 100 := rfl
theorem an_48 : s_an 48 = 1181 := rfl
theorem hdX12_plains : yX12_plain.cls ≠ "java/lang/invoke/MethodHandle" ∧ yX12_plain.cls ≠ "java/lang/invoke/VarHandle" ∧ (parseMethodDescriptor yX12_plain.desc).map (fun d => d.parameters.length) = some 1 := by decide +kernel
theorem iX12_next_X12 : ∀ w ∈ wsX120, w ∈ wsX12_next := fun w h => List.mem_cons_of_mem _ (List.mem_append_left _ (List.mem_append_right _ h))
theorem fX12_next_101 : jj_F wsX12_next RX12 101 11 7 := ⟨_, _, _, rfl, by decide, iX12_next_X12, (show Cond.fieldLink RX12 101 (TX12 7).1 (TX12 7).2.1 (TX12 7).2.2.1 ∈ wsX12_next from List.mem_of_getElem? (i := 1) rfl)⟩
theorem qX12_next_98 : jj_P wsX12_next RX12 98 11 6 (.int) := ⟨_, _, _, tyX12, rfl, by decide, iX12_next_X12, (show Cond.fieldLink RX12 98 (TX12 6).1 (TX12 6).2.1 (TX12 6).2.2.1 ∈ wsX12_next from List.mem_of_getElem? (i := 2) rfl), tyX12_ok, nmX12, rfl, by decide +kernel⟩
theorem sb_11_6 : s_b 11 6 = (0, 900) := rfl
theorem ft_11_6 : (mm_ft 11)[6]? = some 0 := rfl
theorem fX12_next_98 : jj_F wsX12_next RX12 98 11 6 := ⟨_, _, _, rfl, by decide, iX12_next_X12, (show Cond.fieldLink RX12 98 (TX12 6).1 (TX12 6).2.1 (TX12 6).2.2.1 ∈ wsX12_next from List.mem_of_getElem? (i := 2) rfl)⟩
theorem iX12_see_X12 : ∀ w ∈ wsX120, w ∈ wsX12_see := fun w h => List.mem_cons_of_mem _ (List.mem_append_left _ (List.mem_append_right _ h))
theorem fX12_see_83 : jj_F wsX12_see RX12 83 11 8 := ⟨_, _, _, rfl, by decide, iX12_see_X12, (show Cond.fieldLink RX12 83 (TX12 8).1 (TX12 8).2.1 (TX12 8).2.2.1 ∈ wsX12_see from List.mem_of_getElem? (i := 1) rfl)⟩
theorem fX12_see_21 : jj_F wsX12_see RX12 21 11 3 := ⟨_, _, _, rfl, by decide, iX12_see_X12, (show Cond.fieldLink RX12 21 (TX12 3).1 (TX12 3).2.1 (TX12 3).2.2.1 ∈ wsX12_see from List.mem_of_getElem? (i := 2) rfl)⟩
theorem hdX12_see : yX12_see.cls = RX12 ∧ yX12_see.cls ≠ "java/lang/invoke/MethodHandle" ∧ yX12_see.cls ≠ "java/lang/invoke/VarHandle" ∧ (parseMethodDescriptor yX12_see.desc).map (fun d => d.parameters.length) = some 1 := by decide +kernel
theorem qX12_next_101 : jj_P wsX12_next RX12 101 11 7 (.int) := ⟨_, _, _, tyX12, rfl, by decide, iX12_next_X12, (show Cond.fieldLink RX12 101 (TX12 7).1 (TX12 7).2.1 (TX12 7).2.2.1 ∈ wsX12_next from List.mem_of_getElem? (i := 1) rfl), tyX12_ok, nmX12, rfl, by decide +kernel⟩
theorem fX12_next_83 : jj_F wsX12_next RX12 83 11 8 := ⟨_, _, _, rfl, by decide, iX12_next_X12, (show Cond.fieldLink RX12 83 (TX12 8).1 (TX12 8).2.1 (TX12 8).2.2.1 ∈ wsX12_next from List.mem_of_getElem? (i := 3) rfl)⟩
theorem hdX12_isSmalls : yX12_isSmall.cls ≠ "java/lang/invoke/MethodHandle" ∧ yX12_isSmall.cls ≠ "java/lang/invoke/VarHandle" ∧ (parseMethodDescriptor yX12_isSmall.desc).map (fun d => d.parameters.length) = some 1 := by decide +kernel
theorem hdX12_isDigits : yX12_isDigit.cls ≠ "java/lang/invoke/MethodHandle" ∧ yX12_isDigit.cls ≠ "java/lang/invoke/VarHandle" ∧ (parseMethodDescriptor yX12_isDigit.desc).map (fun d => d.parameters.length) = some 1 := by decide +kernel
theorem qX12_next_108 : jj_P wsX12_next RX12 108 11 9 (.int) := ⟨_, _, _, tyX12, rfl, by decide, iX12_next_X12, (show Cond.fieldLink RX12 108 (TX12 9).1 (TX12 9).2.1 (TX12 9).2.2.1 ∈ wsX12_next from List.mem_of_getElem? (i := 4) rfl), tyX12_ok, nmX12, rfl, by decide +kernel⟩
theorem sb_11_9 : s_b 11 9 = ((-2147483648), 2147483647) := rfl
theorem ft_11_9 : (mm_ft 11)[9]? = some 0 := rfl
theorem qX12_next_121 : jj_P wsX12_next RX12 121 11 10 (.int) := ⟨_, _, _, tyX12, rfl, by decide, iX12_next_X12, (show Cond.fieldLink RX12 121 (TX12 10).1 (TX12 10).2.1 (TX12 10).2.2.1 ∈ wsX12_next from List.mem_of_getElem? (i := 5) rfl), tyX12_ok, nmX12, rfl, by decide +kernel⟩
theorem sb_11_10 : s_b 11 10 = (0, 999) := rfl
theorem ft_11_10 : (mm_ft 11)[10]? = some 0 := rfl
theorem fX12_next_121 : jj_F wsX12_next RX12 121 11 10 := ⟨_, _, _, rfl, by decide, iX12_next_X12, (show Cond.fieldLink RX12 121 (TX12 10).1 (TX12 10).2.1 (TX12 10).2.2.1 ∈ wsX12_next from List.mem_of_getElem? (i := 5) rfl)⟩
theorem iX12_keyAt_X12 : ∀ w ∈ wsX120, w ∈ wsX12_keyAt := fun w h => List.mem_cons_of_mem _ (List.mem_append_left _ (List.mem_append_right _ h))
theorem fX12_keyAt_98 : jj_F wsX12_keyAt RX12 98 11 6 := ⟨_, _, _, rfl, by decide, iX12_keyAt_X12, (show Cond.fieldLink RX12 98 (TX12 6).1 (TX12 6).2.1 (TX12 6).2.2.1 ∈ wsX12_keyAt from List.mem_of_getElem? (i := 1) rfl)⟩
theorem fX12_keyAt_101 : jj_F wsX12_keyAt RX12 101 11 7 := ⟨_, _, _, rfl, by decide, iX12_keyAt_X12, (show Cond.fieldLink RX12 101 (TX12 7).1 (TX12 7).2.1 (TX12 7).2.2.1 ∈ wsX12_keyAt from List.mem_of_getElem? (i := 2) rfl)⟩
theorem fX12_keyAt_21 : jj_F wsX12_keyAt RX12 21 11 3 := ⟨_, _, _, rfl, by decide, iX12_keyAt_X12, (show Cond.fieldLink RX12 21 (TX12 3).1 (TX12 3).2.1 (TX12 3).2.2.1 ∈ wsX12_keyAt from List.mem_of_getElem? (i := 3) rfl)⟩
theorem hdX12_keyAt : yX12_keyAt.cls = RX12 ∧ yX12_keyAt.cls ≠ "java/lang/invoke/MethodHandle" ∧ yX12_keyAt.cls ≠ "java/lang/invoke/VarHandle" ∧ (parseMethodDescriptor yX12_keyAt.desc).map (fun d => d.parameters.length) = some 0 := by decide +kernel
theorem hdX12_next : yX12_next.cls = RX12 ∧ yX12_next.cls ≠ "java/lang/invoke/MethodHandle" ∧ yX12_next.cls ≠ "java/lang/invoke/VarHandle" ∧ (parseMethodDescriptor yX12_next.desc).map (fun d => d.parameters.length) = some 0 := by decide +kernel
theorem iX12_is_X12 : ∀ w ∈ wsX120, w ∈ wsX12_is := fun w h => List.mem_cons_of_mem _ (List.mem_append_left _ (List.mem_append_right _ h))
theorem fX12_is_126 : jj_F wsX12_is RX12 126 11 11 := ⟨_, _, _, rfl, by decide, iX12_is_X12, (show Cond.fieldLink RX12 126 (TX12 11).1 (TX12 11).2.1 (TX12 11).2.2.1 ∈ wsX12_is from List.mem_of_getElem? (i := 1) rfl)⟩
theorem fX12_is_108 : jj_F wsX12_is RX12 108 11 9 := ⟨_, _, _, rfl, by decide, iX12_is_X12, (show Cond.fieldLink RX12 108 (TX12 9).1 (TX12 9).2.1 (TX12 9).2.2.1 ∈ wsX12_is from List.mem_of_getElem? (i := 2) rfl)⟩
theorem hdX12_is : yX12_is.cls = RX12 ∧ yX12_is.cls ≠ "java/lang/invoke/MethodHandle" ∧ yX12_is.cls ≠ "java/lang/invoke/VarHandle" ∧ (parseMethodDescriptor yX12_is.desc).map (fun d => d.parameters.length) = some 1 := by decide +kernel
theorem hdX12_eats : yX12_eats.cls = RX12 ∧ yX12_eats.cls ≠ "java/lang/invoke/MethodHandle" ∧ yX12_eats.cls ≠ "java/lang/invoke/VarHandle" ∧ (parseMethodDescriptor yX12_eats.desc).map (fun d => d.parameters.length) = some 1 := by decide +kernel
theorem iX12_fails_X12 : ∀ w ∈ wsX120, w ∈ wsX12_fails := fun w h => List.mem_cons_of_mem _ (List.mem_append_left _ (List.mem_append_right _ h))
theorem fX12_fails_126 : jj_F wsX12_fails RX12 126 11 11 := ⟨_, _, _, rfl, by decide, iX12_fails_X12, (show Cond.fieldLink RX12 126 (TX12 11).1 (TX12 11).2.1 (TX12 11).2.2.1 ∈ wsX12_fails from List.mem_of_getElem? (i := 1) rfl)⟩
theorem fX12_fails_108 : jj_F wsX12_fails RX12 108 11 9 := ⟨_, _, _, rfl, by decide, iX12_fails_X12, (show Cond.fieldLink RX12 108 (TX12 9).1 (TX12 9).2.1 (TX12 9).2.2.1 ∈ wsX12_fails from List.mem_of_getElem? (i := 2) rfl)⟩
theorem qX12_fails_126 : jj_P wsX12_fails RX12 126 11 11 (.int) := ⟨_, _, _, tyX12, rfl, by decide, iX12_fails_X12, (show Cond.fieldLink RX12 126 (TX12 11).1 (TX12 11).2.1 (TX12 11).2.2.1 ∈ wsX12_fails from List.mem_of_getElem? (i := 1) rfl), tyX12_ok, nmX12, rfl, by decide +kernel⟩
theorem fX12_fails_98 : jj_F wsX12_fails RX12 98 11 6 := ⟨_, _, _, rfl, by decide, iX12_fails_X12, (show Cond.fieldLink RX12 98 (TX12 6).1 (TX12 6).2.1 (TX12 6).2.2.1 ∈ wsX12_fails from List.mem_of_getElem? (i := 3) rfl)⟩
theorem qX12_fails_129 : jj_P wsX12_fails RX12 129 11 12 (.int) := ⟨_, _, _, tyX12, rfl, by decide, iX12_fails_X12, (show Cond.fieldLink RX12 129 (TX12 12).1 (TX12 12).2.1 (TX12 12).2.2.1 ∈ wsX12_fails from List.mem_of_getElem? (i := 4) rfl), tyX12_ok, nmX12, rfl, by decide +kernel⟩
theorem sb_11_12 : s_b 11 12 = ((-2147483648), 2147483647) := rfl
theorem ft_11_12 : (mm_ft 11)[12]? = some 0 := rfl
theorem hdX12_fails : yX12_fails.cls = RX12 ∧ yX12_fails.cls ≠ "java/lang/invoke/MethodHandle" ∧ yX12_fails.cls ≠ "java/lang/invoke/VarHandle" ∧ (parseMethodDescriptor yX12_fails.desc).map (fun d => d.parameters.length) = some 1 := by decide +kernel
theorem iX12_ends_X12 : ∀ w ∈ wsX120, w ∈ wsX12_ends := fun w h => List.mem_cons_of_mem _ (List.mem_append_left _ (List.mem_append_right _ h))
theorem fX12_ends_24 : jj_F wsX12_ends RX12 24 11 4 := ⟨_, _, _, rfl, by decide, iX12_ends_X12, (show Cond.fieldLink RX12 24 (TX12 4).1 (TX12 4).2.1 (TX12 4).2.2.1 ∈ wsX12_ends from List.mem_of_getElem? (i := 1) rfl)⟩
theorem hs_48_0_0 : ∀ k, k < 1 → 0 ≤ k → (s_b 48 k).1 ≤ (-2147483648) ∧ 2147483647 ≤ (s_b 48 k).2 := by decide +kernel
theorem hdX12_ends : yX12_ends.cls = RX12 ∧ yX12_ends.cls ≠ "java/lang/invoke/MethodHandle" ∧ yX12_ends.cls ≠ "java/lang/invoke/VarHandle" ∧ (parseMethodDescriptor yX12_ends.desc).map (fun d => d.parameters.length) = some 0 := by decide +kernel
theorem fX12_shop_126 : jj_F wsX12_shop RX12 126 11 11 := ⟨_, _, _, rfl, by decide, iX12_shop_X12, (show Cond.fieldLink RX12 126 (TX12 11).1 (TX12 11).2.1 (TX12 11).2.2.1 ∈ wsX12_shop from List.mem_of_getElem? (i := 5) rfl)⟩
theorem fX12_shop_108 : jj_F wsX12_shop RX12 108 11 9 := ⟨_, _, _, rfl, by decide, iX12_shop_X12, (show Cond.fieldLink RX12 108 (TX12 9).1 (TX12 9).2.1 (TX12 9).2.2.1 ∈ wsX12_shop from List.mem_of_getElem? (i := 7) rfl)⟩
theorem iX12_readLine_X12 : ∀ w ∈ wsX120, w ∈ wsX12_readLine := fun w h => List.mem_cons_of_mem _ (List.mem_append_left _ (List.mem_append_right _ h))
theorem fX12_readLine_126 : jj_F wsX12_readLine RX12 126 11 11 := ⟨_, _, _, rfl, by decide, iX12_readLine_X12, (show Cond.fieldLink RX12 126 (TX12 11).1 (TX12 11).2.1 (TX12 11).2.2.1 ∈ wsX12_readLine from List.mem_of_getElem? (i := 1) rfl)⟩
theorem fX12_readLine_108 : jj_F wsX12_readLine RX12 108 11 9 := ⟨_, _, _, rfl, by decide, iX12_readLine_X12, (show Cond.fieldLink RX12 108 (TX12 9).1 (TX12 9).2.1 (TX12 9).2.2.1 ∈ wsX12_readLine from List.mem_of_getElem? (i := 2) rfl)⟩
theorem iX12_readLaw_X12 : ∀ w ∈ wsX120, w ∈ wsX12_readLaw := fun w h => List.mem_cons_of_mem _ (List.mem_append_left _ (List.mem_append_right _ h))
theorem fX12_readLaw_24 : jj_F wsX12_readLaw RX12 24 11 4 := ⟨_, _, _, rfl, by decide, iX12_readLaw_X12, (show Cond.fieldLink RX12 24 (TX12 4).1 (TX12 4).2.1 (TX12 4).2.2.1 ∈ wsX12_readLaw from List.mem_of_getElem? (i := 1) rfl)⟩
theorem hr_48_280_280 : ∀ k, k < 281 → 280 ≤ k → 0 ≤ (s_b 48 k).1 ∧ (s_b 48 k).2 ≤ 900 := by decide +kernel
theorem iX12_readAtom_X12 : ∀ w ∈ wsX120, w ∈ wsX12_readAtom := fun w h => List.mem_cons_of_mem _ (List.mem_append_left _ (List.mem_append_right _ h))
theorem fX12_readAtom_126 : jj_F wsX12_readAtom RX12 126 11 11 := ⟨_, _, _, rfl, by decide, iX12_readAtom_X12, (show Cond.fieldLink RX12 126 (TX12 11).1 (TX12 11).2.1 (TX12 11).2.2.1 ∈ wsX12_readAtom from List.mem_of_getElem? (i := 2) rfl)⟩
theorem iX12_goesIn_X12 : ∀ w ∈ wsX120, w ∈ wsX12_goesIn := fun w h => List.mem_cons_of_mem _ (List.mem_append_left _ (List.mem_append_right _ h))
theorem fX12_goesIn_126 : jj_F wsX12_goesIn RX12 126 11 11 := ⟨_, _, _, rfl, by decide, iX12_goesIn_X12, (show Cond.fieldLink RX12 126 (TX12 11).1 (TX12 11).2.1 (TX12 11).2.2.1 ∈ wsX12_goesIn from List.mem_of_getElem? (i := 1) rfl)⟩
theorem hdX12_goesIn : yX12_goesIn.cls = RX12 ∧ yX12_goesIn.cls ≠ "java/lang/invoke/MethodHandle" ∧ yX12_goesIn.cls ≠ "java/lang/invoke/VarHandle" ∧ (parseMethodDescriptor yX12_goesIn.desc).map (fun d => d.parameters.length) = some 1 := by decide +kernel
theorem fX12_readAtom_108 : jj_F wsX12_readAtom RX12 108 11 9 := ⟨_, _, _, rfl, by decide, iX12_readAtom_X12, (show Cond.fieldLink RX12 108 (TX12 9).1 (TX12 9).2.1 (TX12 9).2.2.1 ∈ wsX12_readAtom from List.mem_of_getElem? (i := 3) rfl)⟩
theorem hdX12_wordOf : yX12_wordOf.cls = RX12 ∧ yX12_wordOf.cls ≠ "java/lang/invoke/MethodHandle" ∧ yX12_wordOf.cls ≠ "java/lang/invoke/VarHandle" ∧ (parseMethodDescriptor yX12_wordOf.desc).map (fun d => d.parameters.length) = some 1 := by decide +kernel
theorem iX12_codes_X12 : ∀ w ∈ wsX120, w ∈ wsX12_codes := fun w h => List.mem_cons_of_mem _ (List.mem_append_left _ (List.mem_append_right _ h))
theorem fX12_codes_126 : jj_F wsX12_codes RX12 126 11 11 := ⟨_, _, _, rfl, by decide, iX12_codes_X12, (show Cond.fieldLink RX12 126 (TX12 11).1 (TX12 11).2.1 (TX12 11).2.2.1 ∈ wsX12_codes from List.mem_of_getElem? (i := 1) rfl)⟩
theorem fX12_codes_24 : jj_F wsX12_codes RX12 24 11 4 := ⟨_, _, _, rfl, by decide, iX12_codes_X12, (show Cond.fieldLink RX12 24 (TX12 4).1 (TX12 4).2.1 (TX12 4).2.2.1 ∈ wsX12_codes from List.mem_of_getElem? (i := 2) rfl)⟩
theorem hs_48_280_280 : ∀ k, k < 281 → 280 ≤ k → (s_b 48 k).1 ≤ 0 ∧ 900 ≤ (s_b 48 k).2 := by decide +kernel
theorem hdX12_codes : yX12_codes.cls = RX12 ∧ yX12_codes.cls ≠ "java/lang/invoke/MethodHandle" ∧ yX12_codes.cls ≠ "java/lang/invoke/VarHandle" ∧ (parseMethodDescriptor yX12_codes.desc).map (fun d => d.parameters.length) = some 1 := by decide +kernel
theorem fX12_readAtom_121 : jj_F wsX12_readAtom RX12 121 11 10 := ⟨_, _, _, rfl, by decide, iX12_readAtom_X12, (show Cond.fieldLink RX12 121 (TX12 10).1 (TX12 10).2.1 (TX12 10).2.2.1 ∈ wsX12_readAtom from List.mem_of_getElem? (i := 1) rfl)⟩
theorem hdX12_readAtom : yX12_readAtom.cls = RX12 ∧ yX12_readAtom.cls ≠ "java/lang/invoke/MethodHandle" ∧ yX12_readAtom.cls ≠ "java/lang/invoke/VarHandle" ∧ (parseMethodDescriptor yX12_readAtom.desc).map (fun d => d.parameters.length) = some 1 := by decide +kernel
theorem hdX12_readTerm : yX12_readTerm.cls = RX12 ∧ yX12_readTerm.cls ≠ "java/lang/invoke/MethodHandle" ∧ yX12_readTerm.cls ≠ "java/lang/invoke/VarHandle" ∧ (parseMethodDescriptor yX12_readTerm.desc).map (fun d => d.parameters.length) = some 1 := by decide +kernel
theorem iX12_readSum_X12 : ∀ w ∈ wsX120, w ∈ wsX12_readSum := fun w h => List.mem_cons_of_mem _ (List.mem_append_left _ (List.mem_append_right _ h))
theorem fX12_readSum_108 : jj_F wsX12_readSum RX12 108 11 9 := ⟨_, _, _, rfl, by decide, iX12_readSum_X12, (show Cond.fieldLink RX12 108 (TX12 9).1 (TX12 9).2.1 (TX12 9).2.2.1 ∈ wsX12_readSum from List.mem_of_getElem? (i := 1) rfl)⟩
theorem hdX12_readSum : yX12_readSum.cls = RX12 ∧ yX12_readSum.cls ≠ "java/lang/invoke/MethodHandle" ∧ yX12_readSum.cls ≠ "java/lang/invoke/VarHandle" ∧ (parseMethodDescriptor yX12_readSum.desc).map (fun d => d.parameters.length) = some 1 := by decide +kernel
theorem hdX12_readUnit : yX12_readUnit.cls = RX12 ∧ yX12_readUnit.cls ≠ "java/lang/invoke/MethodHandle" ∧ yX12_readUnit.cls ≠ "java/lang/invoke/VarHandle" ∧ (parseMethodDescriptor yX12_readUnit.desc).map (fun d => d.parameters.length) = some 1 := by decide +kernel
theorem hdX12_readBoth : yX12_readBoth.cls = RX12 ∧ yX12_readBoth.cls ≠ "java/lang/invoke/MethodHandle" ∧ yX12_readBoth.cls ≠ "java/lang/invoke/VarHandle" ∧ (parseMethodDescriptor yX12_readBoth.desc).map (fun d => d.parameters.length) = some 1 := by decide +kernel
theorem hdX12_readTruth : yX12_readTruth.cls = RX12 ∧ yX12_readTruth.cls ≠ "java/lang/invoke/MethodHandle" ∧ yX12_readTruth.cls ≠ "java/lang/invoke/VarHandle" ∧ (parseMethodDescriptor yX12_readTruth.desc).map (fun d => d.parameters.length) = some 1 := by decide +kernel
theorem fX12_readLaw_126 : jj_F wsX12_readLaw RX12 126 11 11 := ⟨_, _, _, rfl, by decide, iX12_readLaw_X12, (show Cond.fieldLink RX12 126 (TX12 11).1 (TX12 11).2.1 (TX12 11).2.2.1 ∈ wsX12_readLaw from List.mem_of_getElem? (i := 2) rfl)⟩
theorem hs_48_2_3 : ∀ k, k < 4 → 2 ≤ k → (s_b 48 k).1 ≤ (-2147483648) ∧ 2147483647 ≤ (s_b 48 k).2 := by decide +kernel
theorem hs_48_4_5 : ∀ k, k < 6 → 4 ≤ k → (s_b 48 k).1 ≤ 0 ∧ 900 ≤ (s_b 48 k).2 := by decide +kernel
theorem hs_48_6_7 : ∀ k, k < 8 → 6 ≤ k → (s_b 48 k).1 ≤ 0 ∧ 900 ≤ (s_b 48 k).2 := by decide +kernel
theorem hdX12_readLaw : yX12_readLaw.cls = RX12 ∧ yX12_readLaw.cls ≠ "java/lang/invoke/MethodHandle" ∧ yX12_readLaw.cls ≠ "java/lang/invoke/VarHandle" ∧ (parseMethodDescriptor yX12_readLaw.desc).map (fun d => d.parameters.length) = some 1 := by decide +kernel
theorem iX12_readBuyer_X12 : ∀ w ∈ wsX120, w ∈ wsX12_readBuyer := fun w h => List.mem_cons_of_mem _ (List.mem_append_left _ (List.mem_append_right _ h))
theorem fX12_readBuyer_24 : jj_F wsX12_readBuyer RX12 24 11 4 := ⟨_, _, _, rfl, by decide, iX12_readBuyer_X12, (show Cond.fieldLink RX12 24 (TX12 4).1 (TX12 4).2.1 (TX12 4).2.2.1 ∈ wsX12_readBuyer from List.mem_of_getElem? (i := 1) rfl)⟩
theorem hr_48_1_1 : ∀ k, k < 2 → 1 ≤ k → 0 ≤ (s_b 48 k).1 ∧ (s_b 48 k).2 ≤ 6 := by decide +kernel
theorem fX12_readBuyer_126 : jj_F wsX12_readBuyer RX12 126 11 11 := ⟨_, _, _, rfl, by decide, iX12_readBuyer_X12, (show Cond.fieldLink RX12 126 (TX12 11).1 (TX12 11).2.1 (TX12 11).2.2.1 ∈ wsX12_readBuyer from List.mem_of_getElem? (i := 2) rfl)⟩
theorem iX12_takes_X12 : ∀ w ∈ wsX120, w ∈ wsX12_takes := fun w h => List.mem_cons_of_mem _ (List.mem_append_left _ (List.mem_append_right _ h))
theorem fX12_takes_121 : jj_F wsX12_takes RX12 121 11 10 := ⟨_, _, _, rfl, by decide, iX12_takes_X12, (show Cond.fieldLink RX12 121 (TX12 10).1 (TX12 10).2.1 (TX12 10).2.2.1 ∈ wsX12_takes from List.mem_of_getElem? (i := 1) rfl)⟩
theorem fX12_takes_126 : jj_F wsX12_takes RX12 126 11 11 := ⟨_, _, _, rfl, by decide, iX12_takes_X12, (show Cond.fieldLink RX12 126 (TX12 11).1 (TX12 11).2.1 (TX12 11).2.2.1 ∈ wsX12_takes from List.mem_of_getElem? (i := 2) rfl)⟩
theorem hdX12_takes : yX12_takes.cls = RX12 ∧ yX12_takes.cls ≠ "java/lang/invoke/MethodHandle" ∧ yX12_takes.cls ≠ "java/lang/invoke/VarHandle" ∧ (parseMethodDescriptor yX12_takes.desc).map (fun d => d.parameters.length) = some 2 := by decide +kernel
theorem hs_48_8_13 : ∀ k, k < 14 → 8 ≤ k → (s_b 48 k).1 ≤ (-2147483648) ∧ 2147483647 ≤ (s_b 48 k).2 := by decide +kernel
theorem hs_48_20_25 : ∀ k, k < 26 → 20 ≤ k → (s_b 48 k).1 ≤ 0 ∧ 999 ≤ (s_b 48 k).2 := by decide +kernel
theorem iX12_readMark_X12 : ∀ w ∈ wsX120, w ∈ wsX12_readMark := fun w h => List.mem_cons_of_mem _ (List.mem_append_left _ (List.mem_append_right _ h))
theorem fX12_readMark_24 : jj_F wsX12_readMark RX12 24 11 4 := ⟨_, _, _, rfl, by decide, iX12_readMark_X12, (show Cond.fieldLink RX12 24 (TX12 4).1 (TX12 4).2.1 (TX12 4).2.2.1 ∈ wsX12_readMark from List.mem_of_getElem? (i := 1) rfl)⟩
theorem fX12_readMark_126 : jj_F wsX12_readMark RX12 126 11 11 := ⟨_, _, _, rfl, by decide, iX12_readMark_X12, (show Cond.fieldLink RX12 126 (TX12 11).1 (TX12 11).2.1 (TX12 11).2.2.1 ∈ wsX12_readMark from List.mem_of_getElem? (i := 2) rfl)⟩
theorem hs_48_14_19 : ∀ k, k < 20 → 14 ≤ k → (s_b 48 k).1 ≤ (-2147483648) ∧ 2147483647 ≤ (s_b 48 k).2 := by decide +kernel
theorem hdX12_readMark : yX12_readMark.cls = RX12 ∧ yX12_readMark.cls ≠ "java/lang/invoke/MethodHandle" ∧ yX12_readMark.cls ≠ "java/lang/invoke/VarHandle" ∧ (parseMethodDescriptor yX12_readMark.desc).map (fun d => d.parameters.length) = some 1 := by decide +kernel
theorem hs_48_1_1 : ∀ k, k < 2 → 1 ≤ k → (s_b 48 k).1 ≤ 0 ∧ 6 ≤ (s_b 48 k).2 := by decide +kernel
theorem hdX12_readBuyer : yX12_readBuyer.cls = RX12 ∧ yX12_readBuyer.cls ≠ "java/lang/invoke/MethodHandle" ∧ yX12_readBuyer.cls ≠ "java/lang/invoke/VarHandle" ∧ (parseMethodDescriptor yX12_readBuyer.desc).map (fun d => d.parameters.length) = some 0 := by decide +kernel
theorem iX12_readKind_X12 : ∀ w ∈ wsX120, w ∈ wsX12_readKind := fun w h => List.mem_cons_of_mem _ (List.mem_append_left _ (List.mem_append_right _ h))
theorem fX12_readKind_24 : jj_F wsX12_readKind RX12 24 11 4 := ⟨_, _, _, rfl, by decide, iX12_readKind_X12, (show Cond.fieldLink RX12 24 (TX12 4).1 (TX12 4).2.1 (TX12 4).2.2.1 ∈ wsX12_readKind from List.mem_of_getElem? (i := 1) rfl)⟩
theorem hr_48_26_26 : ∀ k, k < 27 → 26 ≤ k → 0 ≤ (s_b 48 k).1 ∧ (s_b 48 k).2 ≤ 8 := by decide +kernel
theorem fX12_readKind_126 : jj_F wsX12_readKind RX12 126 11 11 := ⟨_, _, _, rfl, by decide, iX12_readKind_X12, (show Cond.fieldLink RX12 126 (TX12 11).1 (TX12 11).2.1 (TX12 11).2.2.1 ∈ wsX12_readKind from List.mem_of_getElem? (i := 2) rfl)⟩
theorem hs_48_33_40 : ∀ k, k < 41 → 33 ≤ k → (s_b 48 k).1 ≤ (-2147483648) ∧ 2147483647 ≤ (s_b 48 k).2 := by decide +kernel
theorem iX12_readFlag_X12 : ∀ w ∈ wsX120, w ∈ wsX12_readFlag := fun w h => List.mem_cons_of_mem _ (List.mem_append_left _ (List.mem_append_right _ h))
theorem fX12_readFlag_24 : jj_F wsX12_readFlag RX12 24 11 4 := ⟨_, _, _, rfl, by decide, iX12_readFlag_X12, (show Cond.fieldLink RX12 24 (TX12 4).1 (TX12 4).2.1 (TX12 4).2.2.1 ∈ wsX12_readFlag from List.mem_of_getElem? (i := 1) rfl)⟩
theorem hr_48_28_28 : ∀ k, k < 29 → 28 ≤ k → 0 ≤ (s_b 48 k).1 ∧ (s_b 48 k).2 ≤ 255 := by decide +kernel
theorem hs_48_28_28 : ∀ k, k < 29 → 28 ≤ k → (s_b 48 k).1 ≤ 0 ∧ 255 ≤ (s_b 48 k).2 := by decide +kernel
theorem fX12_readFlag_126 : jj_F wsX12_readFlag RX12 126 11 11 := ⟨_, _, _, rfl, by decide, iX12_readFlag_X12, (show Cond.fieldLink RX12 126 (TX12 11).1 (TX12 11).2.1 (TX12 11).2.2.1 ∈ wsX12_readFlag from List.mem_of_getElem? (i := 2) rfl)⟩
theorem hr_48_27_27 : ∀ k, k < 28 → 27 ≤ k → 0 ≤ (s_b 48 k).1 ∧ (s_b 48 k).2 ≤ 255 := by decide +kernel
theorem hs_48_27_27 : ∀ k, k < 28 → 27 ≤ k → (s_b 48 k).1 ≤ 0 ∧ 255 ≤ (s_b 48 k).2 := by decide +kernel
theorem hs_48_41_48 : ∀ k, k < 49 → 41 ≤ k → (s_b 48 k).1 ≤ (-2147483648) ∧ 2147483647 ≤ (s_b 48 k).2 := by decide +kernel
theorem hdX12_readFlag : yX12_readFlag.cls = RX12 ∧ yX12_readFlag.cls ≠ "java/lang/invoke/MethodHandle" ∧ yX12_readFlag.cls ≠ "java/lang/invoke/VarHandle" ∧ (parseMethodDescriptor yX12_readFlag.desc).map (fun d => d.parameters.length) = some 1 := by decide +kernel
theorem hs_48_26_26 : ∀ k, k < 27 → 26 ≤ k → (s_b 48 k).1 ≤ 0 ∧ 8 ≤ (s_b 48 k).2 := by decide +kernel
theorem hdX12_readKind : yX12_readKind.cls = RX12 ∧ yX12_readKind.cls ≠ "java/lang/invoke/MethodHandle" ∧ yX12_readKind.cls ≠ "java/lang/invoke/VarHandle" ∧ (parseMethodDescriptor yX12_readKind.desc).map (fun d => d.parameters.length) = some 0 := by decide +kernel
theorem hdX12_readLine : yX12_readLine.cls = RX12 ∧ yX12_readLine.cls ≠ "java/lang/invoke/MethodHandle" ∧ yX12_readLine.cls ≠ "java/lang/invoke/VarHandle" ∧ (parseMethodDescriptor yX12_readLine.desc).map (fun d => d.parameters.length) = some 0 := by decide +kernel
theorem qX12_shop_201 : jj_P wsX12_shop RX12 201 11 13 (.int) := ⟨_, _, _, tyX12, rfl, by decide, iX12_shop_X12, (show Cond.fieldLink RX12 201 (TX12 13).1 (TX12 13).2.1 (TX12 13).2.2.1 ∈ wsX12_shop from List.mem_of_getElem? (i := 8) rfl), tyX12_ok, nmX12, rfl, by decide +kernel⟩
theorem fX12_shop_129 : jj_F wsX12_shop RX12 129 11 12 := ⟨_, _, _, rfl, by decide, iX12_shop_X12, (show Cond.fieldLink RX12 129 (TX12 12).1 (TX12 12).2.1 (TX12 12).2.2.1 ∈ wsX12_shop from List.mem_of_getElem? (i := 9) rfl)⟩
theorem qX12_shop_27 : jj_P wsX12_shop RX12 27 11 14 (.int) := ⟨_, _, _, tyX12, rfl, by decide, iX12_shop_X12, (show Cond.fieldLink RX12 27 (TX12 14).1 (TX12 14).2.1 (TX12 14).2.2.1 ∈ wsX12_shop from List.mem_of_getElem? (i := 10) rfl), tyX12_ok, nmX12, rfl, by decide +kernel⟩
theorem fX12_shop_13 : jj_F wsX12_shop RX12 13 11 1 := ⟨_, _, _, rfl, by decide, iX12_shop_X12, (show Cond.fieldLink RX12 13 (TX12 1).1 (TX12 1).2.1 (TX12 1).2.2.1 ∈ wsX12_shop from List.mem_of_getElem? (i := 11) rfl)⟩
theorem iX12_image_X12 : ∀ w ∈ wsX120, w ∈ wsX12_image := fun w h => List.mem_cons_of_mem _ (List.mem_append_left _ (List.mem_append_right _ h))
theorem qX12_image_1 : jj_P wsX12_image RX12 1 11 0 (.int) := ⟨_, _, _, tyX12, rfl, by decide, iX12_image_X12, (show Cond.fieldLink RX12 1 (TX12 0).1 (TX12 0).2.1 (TX12 0).2.2.1 ∈ wsX12_image from List.mem_of_getElem? (i := 1) rfl), tyX12_ok, nmX12, rfl, by decide +kernel⟩
theorem fX12_image_13 : jj_F wsX12_image RX12 13 11 1 := ⟨_, _, _, rfl, by decide, iX12_image_X12, (show Cond.fieldLink RX12 13 (TX12 1).1 (TX12 1).2.1 (TX12 1).2.2.1 ∈ wsX12_image from List.mem_of_getElem? (i := 2) rfl)⟩
theorem fX12_image_17 : jj_F wsX12_image RX12 17 11 2 := ⟨_, _, _, rfl, by decide, iX12_image_X12, (show Cond.fieldLink RX12 17 (TX12 2).1 (TX12 2).2.1 (TX12 2).2.2.1 ∈ wsX12_image from List.mem_of_getElem? (i := 3) rfl)⟩
theorem ft_11_2 : (mm_ft 11)[2]? = some 2 := rfl
theorem sm_11_2 : s_m 11 2 = 0 := rfl
theorem ak_46 : s_ak 46 = 101 := rfl
theorem an_46 : s_an 46 = 2 := rfl
theorem sb_46 (k : Nat) : s_b 46 k = (0, 1) := rfl
theorem iX12_restore_X12 : ∀ w ∈ wsX120, w ∈ wsX12_restore := fun w h => List.mem_cons_of_mem _ (List.mem_append_left _ (List.mem_append_right _ h))
theorem qX12_restore_1 : jj_P wsX12_restore RX12 1 11 0 (.int) := ⟨_, _, _, tyX12, rfl, by decide, iX12_restore_X12, (show Cond.fieldLink RX12 1 (TX12 0).1 (TX12 0).2.1 (TX12 0).2.2.1 ∈ wsX12_restore from List.mem_of_getElem? (i := 1) rfl), tyX12_ok, nmX12, rfl, by decide +kernel⟩
theorem fX12_restore_17 : jj_F wsX12_restore RX12 17 11 2 := ⟨_, _, _, rfl, by decide, iX12_restore_X12, (show Cond.fieldLink RX12 17 (TX12 2).1 (TX12 2).2.1 (TX12 2).2.2.1 ∈ wsX12_restore from List.mem_of_getElem? (i := 2) rfl)⟩
theorem fX12_restore_13 : jj_F wsX12_restore RX12 13 11 1 := ⟨_, _, _, rfl, by decide, iX12_restore_X12, (show Cond.fieldLink RX12 13 (TX12 1).1 (TX12 1).2.1 (TX12 1).2.2.1 ∈ wsX12_restore from List.mem_of_getElem? (i := 3) rfl)⟩
end
