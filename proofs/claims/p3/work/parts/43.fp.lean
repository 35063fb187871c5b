/-! THE READER of the reference -/
def woF (k : Int) : Int := if k = 12 then 0 else if k = 7 then 1 else if k = 8 then 2 else if k = 1 then 3 else if k = 2 then 4 else if k = 3 then 5 else if k = 13 then 6 else if k = 4 then 7 else -1
theorem woF_s (k : Int) : k = 12 ∧ woF k = 0 ∨ k = 7 ∧ woF k = 1 ∨ k = 8 ∧ woF k = 2 ∨ k = 1 ∧ woF k = 3 ∨ k = 2 ∧ woF k = 4 ∨ k = 3 ∧ woF k = 5 ∨ k = 13 ∧ woF k = 6 ∨ k = 4 ∧ woF k = 7 ∨ (¬ k = 12 ∧ ¬ k = 7 ∧ ¬ k = 8 ∧ ¬ k = 1 ∧ ¬ k = 2 ∧ ¬ k = 3 ∧ ¬ k = 13 ∧ ¬ k = 4) ∧ woF k = -1 := by
  by_cases h1 : k = 12
  · subst h1; left; exact ⟨rfl, rfl⟩
  by_cases h2 : k = 7
  · subst h2; right; left; exact ⟨rfl, rfl⟩
  by_cases h3 : k = 8
  · subst h3; right; right; left; exact ⟨rfl, rfl⟩
  by_cases h4 : k = 1
  · subst h4; right; right; right; left; exact ⟨rfl, rfl⟩
  by_cases h5 : k = 2
  · subst h5; right; right; right; right; left; exact ⟨rfl, rfl⟩
  by_cases h6 : k = 3
  · subst h6; right; right; right; right; right; left; exact ⟨rfl, rfl⟩
  by_cases h7 : k = 13
  · subst h7; right; right; right; right; right; right; left; exact ⟨rfl, rfl⟩
  by_cases h8 : k = 4
  · subst h8; right; right; right; right; right; right; right; left; exact ⟨rfl, rfl⟩
  right; right; right; right; right; right; right; right
  exact ⟨⟨h1, h2, h3, h4, h5, h6, h7, h8⟩, by unfold woF; rw [if_neg h1, if_neg h2, if_neg h3, if_neg h4, if_neg h5, if_neg h6, if_neg h7, if_neg h8]⟩
/-- fresh[] has one sign more -/
def APP (M N : mm_M) (c : Int) : Prop := (N.1 102 280).toInt = (M.1 102 280).toInt + 1 ∧ (N.1 102 (281 + (M.1 102 280).toInt).toNat).toInt = c ∧ ∀ p : Nat, p ≠ 280 → (p : Int) ≠ 281 + (M.1 102 280).toInt → N.1 102 p = M.1 102 p
/-- fresh[] has some signs more, that want a depth r and make it deeper by e -/
def EXT (M N : mm_M) (r e : Int) : Prop := (M.1 102 280).toInt ≤ (N.1 102 280).toInt ∧ (∀ p : Nat, p ≠ 280 → (p : Int) < 281 + (M.1 102 280).toInt → N.1 102 p = M.1 102 p) ∧ ∀ o : Int, 0 ≤ o → o ≤ (M.1 102 280).toInt → zwS (M.1 102) (281 + o) ((M.1 102 280).toInt - o) → r ≤ dqF (M.1 102) (281 + o) ((M.1 102 280).toInt - o).toNat → zwS (N.1 102) (281 + o) ((N.1 102 280).toInt - o) ∧ dqF (N.1 102) (281 + o) ((N.1 102 280).toInt - o).toNat = dqF (M.1 102) (281 + o) ((M.1 102 280).toInt - o).toNat + e
theorem ex_0 (M : mm_M) : b01 (EXT M M 0 0) = 1 := b01_i ⟨Int.le_refl _, fun _ _ _ => rfl, fun o _ _ h _ => ⟨h, by omega⟩⟩
theorem ex_c {M N P : mm_M} {r e : Int} (hc : P.1 102 = N.1 102) (h : b01 (EXT M N r e) = 1) : b01 (EXT M P r e) = 1 := b01_i (by
  unfold EXT; rw [hc]; exact b01_e h)
theorem ex_tr {M N P : mm_M} {r1 e1 r2 e2 r e : Int} (q : r1 ≤ r ∧ r2 ≤ r + e1 ∧ e = e1 + e2) (h1 : b01 (EXT M N r1 e1) = 1) (h2 : b01 (EXT N P r2 e2) = 1) : b01 (EXT M P r e) = 1 := b01_i (by
  obtain ⟨a1, a2, a3⟩ := b01_e h1
  obtain ⟨b1, b2, b3⟩ := b01_e h2
  refine ⟨by omega, fun p hp hp2 => ?_, fun o h0 ho hz hd => ?_⟩
  · rw [b2 p hp (by omega), a2 p hp hp2]
  · obtain ⟨c1, c2⟩ := a3 o h0 ho hz (by omega)
    obtain ⟨d1, d2⟩ := b3 o h0 (by omega) c1 (by omega)
    exact ⟨d1, by omega⟩)
theorem dqF_c {f g : Nat → Int32} {o : Int} : ∀ n : Nat, (∀ i : Nat, i < n → f (o + (i : Int)).toNat = g (o + (i : Int)).toNat) → dqF f o n = dqF g o n
  | 0, _ => rfl
  | n + 1, h => by rw [dqF, dqF, dqF_c n (fun i hi => h i (by omega)), h n (by omega)]
theorem zwS_c {f g : Nat → Int32} {o n : Int} (h : ∀ i : Nat, (i : Int) < n → f (o + (i : Int)).toNat = g (o + (i : Int)).toNat) (hz : zwS f o n) : zwS g o n := by
  intro i hi
  have := hz i hi
  rw [h i hi, dqF_c i (fun j hj => h j (by omega))] at this
  exact this
theorem ap_e {M N : mm_M} {c r e : Int} (hM : 0 ≤ (M.1 102 280).toInt) (hd : ∀ d : Int, r ≤ d → okc c d) (he : ∀ d : Int, (if c < 3000 then d + 1 else if c = 3006 then d else d - 1) = d + e) (h : b01 (APP M N c) = 1) : b01 (EXT M N r e) = 1 := b01_i (by
  obtain ⟨a1, a2, a3⟩ := b01_e h
  refine ⟨by omega, fun p hp hp2 => a3 p hp (by omega), fun o h0 ho hz hr => ?_⟩
  have hs : ∀ i : Nat, (i : Int) < (M.1 102 280).toInt - o → M.1 102 (281 + o + (i : Int)).toNat = N.1 102 (281 + o + (i : Int)).toNat := fun i hi => (a3 _ (by omega) (by omega)).symm
  have hz2 := zwS_c hs hz
  have hdq : dqF (N.1 102) (281 + o) ((M.1 102 280).toInt - o).toNat = dqF (M.1 102) (281 + o) ((M.1 102 280).toInt - o).toNat := (dqF_c _ (fun i hi => hs i (by omega))).symm
  have en : ((N.1 102 280).toInt - o).toNat = ((M.1 102 280).toInt - o).toNat + 1 := by omega
  have ec : (N.1 102 (281 + o + ((((M.1 102 280).toInt - o).toNat : Nat) : Int)).toNat).toInt = c := by
    rw [show (281 + o + ((((M.1 102 280).toInt - o).toNat : Nat) : Int)) = 281 + (M.1 102 280).toInt by omega]; exact a2
  refine ⟨fun i hi => ?_, ?_⟩
  · rcases (show (i : Int) < (M.1 102 280).toInt - o ∨ i = ((M.1 102 280).toInt - o).toNat by omega) with q | q
    · exact hz2 i q
    · rw [q, ec, hdq]; exact hd _ hr
  · rw [en, dqF, ec, hdq]; exact he _)
theorem ap_push {M N : mm_M} {c : Int} (hM : 0 ≤ (M.1 102 280).toInt ∧ 0 ≤ c ∧ c ≤ 1007) (h : b01 (APP M N c) = 1) : b01 (EXT M N 0 1) = 1 := ap_e hM.1 (fun d hd => Or.inl ⟨by omega, hM.2⟩) (fun d => by rw [if_pos (by omega)]) h
theorem ap_not {M N : mm_M} (hM : 0 ≤ (M.1 102 280).toInt) (h : b01 (APP M N 3006) = 1) : b01 (EXT M N 1 0) = 1 := ap_e hM (fun d hd => Or.inr (Or.inl ⟨rfl, hd⟩)) (fun d => by rw [if_neg (by decide), if_pos rfl]; omega) h
theorem ap_bin {M N : mm_M} {c : Int} (hM : 0 ≤ (M.1 102 280).toInt ∧ 3000 ≤ c ∧ ¬ c = 3006) (h : b01 (APP M N c) = 1) : b01 (EXT M N 2 (-1)) = 1 := ap_e hM.1 (fun d hd => Or.inr (Or.inr ⟨hM.2.1, hM.2.2, hd⟩)) (fun d => by rw [if_neg (by omega), if_neg hM.2.2]; omega) h
theorem ap_w {M M1 M' : mm_M} {c n : Int} (e1 : M1 = wI M 102 (281 + n).toNat (sI c)) (e2 : M' = wI M1 102 280 (sI (n + 1))) (q : n = (M.1 102 280).toInt ∧ 0 ≤ n ∧ n ≤ 899 ∧ -2147483648 ≤ c ∧ c ≤ 2147483647) : b01 (APP M M' c) = 1 := b01_i (by
  obtain ⟨q1, q2, q3, q4, q5⟩ := q
  refine ⟨?_, ?_, fun p hp hp2 => ?_⟩
  · rw [s_wr e2 (by omega)]; omega
  · rw [← q1, wI_ne e2 (by omega), s_wr e1 ⟨q4, q5⟩]
  · rw [wI_ne e2 hp, wI_ne e1 (by omega)])
/-- what lines that tell no law leave of fresh[] -/
def scQ (p : Nat) : Bool := (Nat.ble 2 p && Nat.ble p 7) || (Nat.ble 49 p)
def SC (M N : mm_M) : Prop := ∀ p : Nat, scQ p = true → N.1 102 p = M.1 102 p
theorem sc_0 (M : mm_M) : b01 (SC M M) = 1 := b01_i (fun _ _ => rfl)
theorem sc_w {M N N' : mm_M} {p : Nat} {v : Int32} (e : N' = wI N 102 p v) (hp : scQ p = false) (h : b01 (SC M N) = 1) : b01 (SC M N') = 1 := b01_i (fun q hq => by
  rw [wI_ne e (fun z => by rw [z, hp] at hq; cases hq)]; exact b01_e h q hq)
theorem sc_c {M N P : mm_M} (hc : P.1 102 = N.1 102) (h : b01 (SC M N) = 1) : b01 (SC M P) = 1 := b01_i (fun q hq => by rw [hc]; exact b01_e h q hq)
theorem sc_t {M N P : mm_M} (h : b01 (SC M N) = 1) (h2 : b01 (SC N P) = 1) : b01 (SC M P) = 1 := b01_i (fun q hq => by rw [b01_e h2 q hq]; exact b01_e h q hq)
def ODP (M : mm_M) : Prop := ∀ p : Nat, 20 ≤ p → p ≤ 25 → (M.1 102 p).toInt ≤ 9
theorem od_w {M M' : mm_M} {p : Nat} {v : Int} (e : M' = wI M 102 p (sI v)) (hv : -2147483648 ≤ v ∧ v ≤ 9) (h : b01 (ODP M) = 1) : b01 (ODP M') = 1 := b01_i (fun q h1 h2 => by
  by_cases z : q = p
  · subst z; rw [s_wr e (by omega)]; exact hv.2
  · rw [wI_ne e z]; exact b01_e h q h1 h2)
theorem od_n {M M' : mm_M} {p : Nat} {v : Int32} (e : M' = wI M 102 p v) (hp : p < 20 ∨ 25 < p) (h : b01 (ODP M) = 1) : b01 (ODP M') = 1 := b01_i (fun q h1 h2 => by
  rw [wI_ne e (by omega)]; exact b01_e h q h1 h2)
theorem od_c {M N : mm_M} (hc : N.1 102 = M.1 102) (h : b01 (ODP M) = 1) : b01 (ODP N) = 1 := b01_i (fun q h1 h2 => by rw [hc]; exact b01_e h q h1 h2)
/-- the laws told in fresh[], and its kept pairs -/
def FL (M : mm_M) : Prop := (zwB (M.1 102) ∧ ∀ l : Nat, l < 2 → (M.1 102 (4 + l)).toInt + (M.1 102 (6 + l)).toInt ≤ (M.1 102 280).toInt) ∧ ∀ i : Nat, i < 10 → pkF (M.1 102) (50 + 23 * i)
theorem zwL_c {f g : Nat → Int32} {l : Nat} (e2 : g (2 + l) = f (2 + l)) (e4 : g (4 + l) = f (4 + l)) (e6 : g (6 + l) = f (6 + l)) (h : ∀ p : Nat, 281 ≤ p → (p : Int) < 281 + ((f (4 + l)).toInt + (f (6 + l)).toInt) → g p = f p) (h0 : 0 ≤ (f (4 + l)).toInt) (hz : zwL f l) : zwL g l := by
  obtain ⟨z1, z2, z3⟩ := hz
  unfold zwL
  rw [e2, e4, e6]
  have hs : ∀ i : Nat, (i : Int) < (f (6 + l)).toInt → f (281 + (f (4 + l)).toInt + (i : Int)).toNat = g (281 + (f (4 + l)).toInt + (i : Int)).toNat := fun i hi => (h _ (by omega) (by omega)).symm
  refine ⟨z1, zwS_c hs z2, ?_⟩
  rcases z3 with z3 | z3
  · exact Or.inl z3
  · right
    rw [← dqF_c _ (fun i hi => hs i (by omega))]; exact z3
theorem fl_sc {M N : mm_M} (hb : ∀ l : Nat, l < 2 → 0 ≤ (M.1 102 (4 + l)).toInt) (h : b01 (FL M) = 1) (hs : b01 (SC M N) = 1) : b01 (FL N) = 1 := b01_i (by
  obtain ⟨⟨⟨z0, z1⟩, z2⟩, z3⟩ := b01_e h
  have hs := b01_e hs
  have sc : ∀ p : Nat, (2 ≤ p ∧ p ≤ 7) ∨ 49 ≤ p → N.1 102 p = M.1 102 p := by
    intro p hp
    refine hs p ?_
    unfold scQ
    rcases hp with hp | hp
    · rw [Nat.ble_eq_true_of_le hp.1, Nat.ble_eq_true_of_le hp.2]; rfl
    · rw [Nat.ble_eq_true_of_le hp]; simp
  refine ⟨⟨⟨zwL_c (sc _ (by omega)) (sc _ (by omega)) (sc _ (by omega)) (fun p hp _ => sc p (by omega)) (hb 0 (by decide)) z0, zwL_c (sc _ (by omega)) (sc _ (by omega)) (sc _ (by omega)) (fun p hp _ => sc p (by omega)) (hb 1 (by decide)) z1⟩, fun l hl => ?_⟩, fun i hi => ?_⟩
  · rw [sc (4 + l) (by omega), sc (6 + l) (by omega), sc 280 (by omega)]; exact z2 l hl
  · unfold pkF; rw [sc _ (by omega), sc _ (by omega)]; exact z3 i hi)
theorem fl_law {M N P1 P2 P : mm_M} {l : Nat} (hl : l < 2) (hb : ∀ l : Nat, l < 2 → 0 ≤ (M.1 102 (4 + l)).toInt) (h : b01 (FL M) = 1) (hx : b01 (EXT M N 0 1) = 1) (e1 : P1 = wI N 102 (2 + l) (sI 1)) (e2 : P2 = wI P1 102 (4 + l) (sI (M.1 102 280).toInt)) (e3 : P = wI P2 102 (6 + l) (sI ((N.1 102 280).toInt - (M.1 102 280).toInt))) (q : 0 ≤ (M.1 102 280).toInt ∧ (N.1 102 280).toInt ≤ 900) : b01 (FL P) = 1 := b01_i (by
  obtain ⟨⟨⟨z0, z1⟩, z2⟩, z3⟩ := b01_e h
  obtain ⟨x1, x2, x3⟩ := b01_e hx
  have same : ∀ p : Nat, p ≠ 2 + l → p ≠ 4 + l → p ≠ 6 + l → P.1 102 p = N.1 102 p := fun p h1 h2 h3 => by
    rw [wI_ne e3 h3, wI_ne e2 h2, wI_ne e1 h1]
  have p4 : (P.1 102 (4 + l)).toInt = (M.1 102 280).toInt := by rw [wI_ne e3 (by omega), s_wr e2 (by omega)]
  have p6 : (P.1 102 (6 + l)).toInt = (N.1 102 280).toInt - (M.1 102 280).toInt := s_wr e3 (by omega)
  have p280 : P.1 102 280 = N.1 102 280 := same 280 (by omega) (by omega) (by omega)
  obtain ⟨y1, y2⟩ := x3 (M.1 102 280).toInt q.1 (Int.le_refl _) (by intro i hi; omega) (by rw [Int.sub_self]; exact Int.le_refl _)
  have mine : zwL (P.1 102) l := by
    unfold zwL
    rw [p4, p6]
    have hs : ∀ i : Nat, (i : Int) < (N.1 102 280).toInt - (M.1 102 280).toInt → N.1 102 (281 + (M.1 102 280).toInt + (i : Int)).toNat = P.1 102 (281 + (M.1 102 280).toInt + (i : Int)).toNat := fun i hi => (same _ (by omega) (by omega) (by omega)).symm
    refine ⟨by omega, zwS_c hs y1, Or.inr ?_⟩
    rw [← dqF_c _ (fun i hi => hs i (by omega)), y2, Int.sub_self]
    exact Int.le_refl _
  have other : ∀ l' : Nat, l' < 2 → l' ≠ l → zwL (M.1 102) l' → zwL (P.1 102) l' := by
    intro l' hl' hne hz
    have hq := z2 l' hl'
    have sm : ∀ p : Nat, p ≠ 2 + l → p ≠ 4 + l → p ≠ 6 + l → p ≠ 280 → (p : Int) < 281 + (M.1 102 280).toInt → P.1 102 p = M.1 102 p := fun p h1 h2 h3 h4 h5 => by rw [same p h1 h2 h3, x2 p h4 h5]
    exact zwL_c (f := M.1 102) (sm _ (by omega) (by omega) (by omega) (by omega) (by omega)) (sm _ (by omega) (by omega) (by omega) (by omega) (by omega)) (sm _ (by omega) (by omega) (by omega) (by omega) (by omega)) (fun p hp1 hp2 => sm p (by omega) (by omega) (by omega) (by omega) (by omega)) (hb l' hl') hz
  have sm : ∀ p : Nat, p ≠ 2 + l → p ≠ 4 + l → p ≠ 6 + l → p ≠ 280 → (p : Int) < 281 + (M.1 102 280).toInt → P.1 102 p = M.1 102 p := fun p h1 h2 h3 h4 h5 => by rw [same p h1 h2 h3, x2 p h4 h5]
  refine ⟨⟨?_, fun l' hl' => ?_⟩, fun i hi => ?_⟩
  · rcases (show l = 0 ∨ l = 1 by omega) with rfl | rfl
    · exact ⟨mine, other 1 (by decide) (by decide) z1⟩
    · exact ⟨other 0 (by decide) (by decide) z0, mine⟩
  · rw [p280]
    by_cases hq : l' = l
    · subst hq; rw [p4, p6]; omega
    · have := z2 l' hl'
      rw [sm (4 + l') (by omega) (by omega) (by omega) (by omega) (by omega), sm (6 + l') (by omega) (by omega) (by omega) (by omega) (by omega)]
      omega
  · have := z3 i hi
    unfold pkF at *
    rw [sm _ (by omega) (by omega) (by omega) (by omega) (by omega), sm _ (by omega) (by omega) (by omega) (by omega) (by omega)]
    exact this)
def ZR (M : mm_M) (k : Int) : Prop := ∀ p : Nat, (p : Int) < k → M.1 102 p = 0
theorem zr_0 (M : mm_M) : b01 (ZR M 0) = 1 := b01_i (fun p hp => absurd hp (by omega))
theorem zr_s {M M' : mm_M} {k : Int} (e : M' = wI M 102 k.toNat (sI 0)) (h0 : 0 ≤ k) (h : b01 (ZR M k) = 1) : b01 (ZR M' (k + 1)) = 1 := b01_i (fun p hp => by
  by_cases z : p = k.toNat
  · subst z; rw [e]; exact (u2_s M.1 102 k.toNat (sI 0)).trans rfl
  · rw [wI_ne e z]; exact b01_e h p (by omega))
theorem b48_0 (k : Nat) : (s_b 48 k).1 ≤ 0 ∧ 0 ≤ (s_b 48 k).2 := by
  show (bf k).1 ≤ 0 ∧ 0 ≤ (bf k).2
  have h1 : ∀ j, (bk j).1 ≤ 0 ∧ 0 ≤ (bk j).2 := by intro j; unfold bk; (repeat' split) <;> decide
  unfold bf bz
  (repeat' split) <;> first | decide | exact h1 _
theorem zr_fl {M : mm_M} (h : b01 (ZR M 1181) = 1) : b01 (FL M) = 1 ∧ b01 (ODP M) = 1 ∧ (M.1 102 280).toInt = 0 ∧ (M.1 102 26).toInt = 0 ∧ (M.1 102 27).toInt = 0 := by
  have z := b01_e h
  have t0 : ∀ p : Nat, p < 1181 → (M.1 102 p).toInt = 0 := fun p hp => by rw [z p (by omega)]; rfl
  have zl : ∀ l : Nat, l < 2 → zwL (M.1 102) l := by
    intro l hl
    unfold zwL
    rw [t0 (4 + l) (by omega), t0 (6 + l) (by omega), t0 (2 + l) (by omega)]
    exact ⟨by decide, fun i hi => by omega, Or.inl rfl⟩
  refine ⟨b01_i ⟨⟨⟨zl 0 (by decide), zl 1 (by decide)⟩, fun l hl => ?_⟩, fun i hi => ?_⟩, b01_i (fun p h1 h2 => by rw [t0 p (by omega)]; decide), t0 280 (by decide), t0 26 (by decide), t0 27 (by decide)⟩
  · rw [t0 (4 + l) (by omega), t0 (6 + l) (by omega), t0 280 (by decide)]; decide
  · unfold pkF; rw [t0 _ (by omega), t0 _ (by omega)]; decide
theorem b48_c (p : Nat) (v : Int) (h : (-2147483648 ≤ v ∧ v ≤ 2147483647) ∧ 281 ≤ p ∧ p ≤ 1180) : (s_b 48 p).1 ≤ v ∧ v ≤ (s_b 48 p).2 := by
  have e : s_b 48 p = (-2147483648, 2147483647) := by
    show bf p = _
    unfold bf bz
    rw [if_neg (by omega), if_neg (by omega), if_neg (by omega), if_neg (by omega), if_neg (by omega), if_neg (by omega), if_neg (by omega)]
  rw [e]; exact h.1
def RIP (M : mm_M) : Prop := 0 ≤ (M.1 98 6).toInt ∧ (M.1 98 6).toInt ≤ (M.1 98 7).toInt ∧ (M.1 98 7).toInt ≤ (M.1 98 8).toInt ∧ (M.1 98 8).toInt ≤ 900 ∧ ((M.1 98 9).toInt = 24 ∨ (M.1 98 6).toInt < (M.1 98 7).toInt)
theorem ri_l {M : mm_M} (h : b01 (RIP M) = 1) : 0 ≤ (M.1 98 6).toInt ∧ (M.1 98 6).toInt ≤ (M.1 98 7).toInt ∧ (M.1 98 7).toInt ≤ (M.1 98 8).toInt ∧ (M.1 98 8).toInt ≤ 900 := by
  obtain ⟨h1, h2, h3, h4, -⟩ := b01_e h
  exact ⟨h1, h2, h3, h4⟩
theorem ri_k {M : mm_M} (h : b01 (RIP M) = 1) (hk : ¬ (M.1 98 9).toInt = 24) : (M.1 98 6).toInt < (M.1 98 7).toInt := by
  obtain ⟨-, -, -, -, h5⟩ := b01_e h
  omega
theorem ri_c {M N : mm_M} (hc : N.1 98 = M.1 98) (h : b01 (RIP M) = 1) : b01 (RIP N) = 1 := b01_i (by unfold RIP; rw [hc]; exact b01_e h)
def XW (M N : mm_M) (r e s : Int) : Prop := (N.1 98 11).toInt ≠ 0 ∨ ((M.1 98 11).toInt = 0 ∧ (N.1 102 280).toInt - (N.1 98 6).toInt + s ≤ (M.1 102 280).toInt - (M.1 98 6).toInt ∧ EXT M N r e)
def CA (M : mm_M) : Prop := (M.1 98 11).toInt ≠ 0 ∨ (M.1 102 280).toInt ≤ (M.1 98 6).toInt
def CB (M : mm_M) : Prop := (M.1 98 11).toInt ≠ 0 ∨ (M.1 102 280).toInt ≤ 899
def AW (M N : mm_M) (c : Int) : Prop := (M.1 98 11).toInt ≠ 0 ∨ APP M N c
theorem xw_0 (M : mm_M) : b01 (XW M M 0 0 0) = 1 := b01_i (by
  by_cases h : (M.1 98 11).toInt = 0
  · exact Or.inr ⟨h, by omega, b01_e (ex_0 M)⟩
  · exact Or.inl h)
theorem xw_t {M N P : mm_M} {r1 e1 s1 r2 e2 s2 : Int} (r e s : Int) (q : r1 ≤ r ∧ r2 ≤ r + e1 ∧ e = e1 + e2 ∧ s ≤ s1 + s2) (h1 : b01 (XW M N r1 e1 s1) = 1) (h2 : b01 (XW N P r2 e2 s2) = 1) : b01 (XW M P r e s) = 1 := b01_i (by
  rcases b01_e h2 with h2 | ⟨a1, a2, a3⟩
  · exact Or.inl h2
  · rcases b01_e h1 with h1 | ⟨b1, b2, b3⟩
    · exact absurd a1 h1
    · exact Or.inr ⟨b1, by omega, b01_e (ex_tr ⟨q.1, q.2.1, q.2.2.1⟩ (b01_i b3) (b01_i a3))⟩)
theorem xw_c {N P : mm_M} (s : Int) (hc : P.1 102 = N.1 102) (h : ¬ (P.1 98 11).toInt = 0 ∨ (N.1 98 11).toInt = 0 ∧ (N.1 98 6).toInt + s ≤ (P.1 98 6).toInt) : b01 (XW N P 0 0 s) = 1 := b01_i (by
  rcases h with h | h
  · exact Or.inl h
  · refine Or.inr ⟨h.1, by rw [hc]; omega, b01_e (ex_c hc (ex_0 N))⟩)
theorem xw_a {M N : mm_M} {c r e : Int} (h98 : N.1 98 = M.1 98) (hx : b01 (APP M N c) = 1 → b01 (EXT M N r e) = 1) (h : b01 (AW M N c) = 1) : b01 (XW M N r e (-1)) = 1 := b01_i (by
  rcases b01_e h with h | h
  · left; rw [h98]; exact h
  · by_cases q : (M.1 98 11).toInt = 0
    · refine Or.inr ⟨q, ?_, b01_e (hx (b01_i h))⟩
      rw [h98]; have := h.1; omega
    · left; rw [h98]; exact q)
theorem ca_x {M N : mm_M} {r e s : Int} (hs : 0 ≤ s) (h : b01 (CA M) = 1) (hx : b01 (XW M N r e s) = 1) : b01 (CA N) = 1 := b01_i (by
  rcases b01_e hx with hx | ⟨a1, a2, a3⟩
  · exact Or.inl hx
  · rcases b01_e h with h | h
    · exact absurd a1 h
    · right; omega)
theorem cb_x {M N : mm_M} {r e s : Int} (hs : 1 ≤ s) (hA : (N.1 98 6).toInt ≤ 900) (h : b01 (CA M) = 1) (hx : b01 (XW M N r e s) = 1) : b01 (CB N) = 1 := b01_i (by
  rcases b01_e hx with hx | ⟨a1, a2, a3⟩
  · exact Or.inl hx
  · rcases b01_e h with h | h
    · exact absurd a1 h
    · right; omega)
theorem cb_0 {M : mm_M} (h : b01 (CA M) = 1) (hA : (M.1 98 6).toInt ≤ 899) : b01 (CB M) = 1 := b01_i (by
  rcases b01_e h with h | h
  · exact Or.inl h
  · right; omega)
theorem cb_e {M : mm_M} (h : b01 (CB M) = 1) (hw : (M.1 98 11).toInt = 0) : (M.1 102 280).toInt ≤ 899 := by
  rcases b01_e h with h | h
  · exact absurd hw h
  · exact h
theorem xw_n {M N : mm_M} {r e s : Int} (h : b01 (XW M N r e s) = 1) (hw : (N.1 98 11).toInt = 0) : (M.1 98 11).toInt = 0 ∧ (M.1 102 280).toInt ≤ (N.1 102 280).toInt := by
  rcases b01_e h with h | ⟨a1, a2, a3⟩
  · exact absurd hw h
  · exact ⟨a1, a3.1⟩
theorem xw_e {M N : mm_M} {r e s : Int} (h : b01 (XW M N r e s) = 1) (hw : (N.1 98 11).toInt = 0) : b01 (EXT M N r e) = 1 := by
  rcases b01_e h with h | ⟨a1, a2, a3⟩
  · exact absurd hw h
  · exact b01_i a3
/-- what holds between lines, k: a kind's line is under way (the pair isn't told yet) -/
def KV (M : mm_M) (k : Int) : Prop := (M.1 98 11).toInt ≠ 0 ∨ ((M.1 102 280).toInt ≤ (M.1 98 6).toInt ∧ ODP M ∧ (M.1 102 27).toInt < pw2 (k + 1) ∧ (M.1 102 26).toInt = k ∧ FL M)
def LV (M : mm_M) : Prop := (M.1 98 11).toInt ≠ 0 ∨ ((M.1 102 280).toInt ≤ (M.1 98 6).toInt ∧ ODP M ∧ (M.1 102 27).toInt < pw2 (M.1 102 26).toInt ∧ FL M)
theorem lv_w0 {M : mm_M} (h : ¬ (M.1 98 11).toInt = 0) : b01 (LV M) = 1 := b01_i (Or.inl h)
theorem lv_c {M N : mm_M} (hc : N.1 102 = M.1 102) (q : ¬ (N.1 98 11).toInt = 0 ∨ (M.1 98 11).toInt = 0 ∧ (M.1 98 6).toInt ≤ (N.1 98 6).toInt) (h : b01 (LV M) = 1) : b01 (LV N) = 1 := b01_i (by
  rcases q with q | q
  · exact Or.inl q
  · rcases b01_e h with h | ⟨h1, h2, h3, h4⟩
    · exact absurd q.1 h
    · right
      refine ⟨by rw [hc]; omega, b01_e (od_c hc (b01_i h2)), by rw [hc]; exact h3, ?_⟩
      unfold FL; rw [hc]; exact h4)
theorem fl_w {M M' : mm_M} {p : Nat} {v : Int32} (e : M' = wI M 102 p v) (hp : scQ p = false) (hb : ∀ l : Nat, l < 2 → 0 ≤ (M.1 102 (4 + l)).toInt) (h : FL M) : FL M' := b01_e (fl_sc hb (b01_i h) (sc_w e hp (sc_0 M)))
theorem h4b {pr : Nat → Nat → Bool} {Kz M : mm_M} (h : INV pr Kz M) : ∀ l : Nat, l < 2 → 0 ≤ (M.1 102 (4 + l)).toInt := by
  intro l hl
  rcases (show l = 0 ∨ l = 1 by omega) with rfl | rfl
  · exact (INV.rd h (i := 102) (c := 48) (k := 4) rfl rfl).1
  · exact (INV.rd h (i := 102) (c := 48) (k := 5) rfl rfl).1
theorem lv_w {M M' : mm_M} {p : Nat} {v : Int32} (e : M' = wI M 102 p v) (hb : ∀ l : Nat, l < 2 → 0 ≤ (M.1 102 (4 + l)).toInt) (q : (p = 0 ∨ p = 1 ∨ 8 ≤ p) ∧ (p < 20 ∨ 28 ≤ p) ∧ p < 49) (h : b01 (LV M) = 1) : b01 (LV M') = 1 := b01_i (by
  have e98 : M'.1 98 = M.1 98 := wI_cell e (by decide)
  have hp := (show ∀ p : Nat, p < 49 → (p = 0 ∨ p = 1 ∨ 8 ≤ p) → scQ p = false by decide) p q.2.2 q.1
  rcases b01_e h with h | ⟨h1, h2, h3, h4⟩
  · left; rw [e98]; exact h
  · right
    refine ⟨by rw [e98, wI_ne e (by omega)]; exact h1, b01_e (od_n e (by omega) (b01_i h2)), by rw [wI_ne e (by omega), wI_ne e (by omega)]; exact h3, fl_w e hp hb h4⟩)
theorem lv_o {M M' : mm_M} {p : Nat} {v : Int} (e : M' = wI M 102 p (sI v)) (hb : ∀ l : Nat, l < 2 → 0 ≤ (M.1 102 (4 + l)).toInt) (q : 20 ≤ p ∧ p ≤ 25) (hv : ¬ (M.1 98 11).toInt = 0 ∨ -2147483648 ≤ v ∧ v ≤ 9) (h : b01 (LV M) = 1) : b01 (LV M') = 1 := b01_i (by
  have e98 : M'.1 98 = M.1 98 := wI_cell e (by decide)
  have hp : ∀ p : Nat, p < 26 → 20 ≤ p → scQ p = false := by decide
  rcases b01_e h with h | ⟨h1, h2, h3, h4⟩
  · left; rw [e98]; exact h
  · rcases hv with hv | hv
    · left; rw [e98]; exact hv
    · right
      refine ⟨by rw [e98, wI_ne e (by omega)]; exact h1, b01_e (od_w e hv (b01_i h2)), by rw [wI_ne e (by omega), wI_ne e (by omega)]; exact h3, fl_w e (hp p (by omega) q.1) hb h4⟩)
theorem kv_0 {M : mm_M} {k : Int} (hk : (M.1 102 26).toInt = k) (h : b01 (LV M) = 1) : b01 (KV M k) = 1 := b01_i (by
  rcases b01_e h with h | ⟨h1, h2, h3, h4⟩
  · exact Or.inl h
  · right
    rw [hk] at h3
    have := pw2_m (a := k) (b := k + 1) (by omega)
    exact ⟨h1, h2, by omega, hk, h4⟩)
theorem kv_c {M N : mm_M} {k : Int} (hc : N.1 102 = M.1 102) (q : ¬ (N.1 98 11).toInt = 0 ∨ (M.1 98 11).toInt = 0 ∧ (M.1 98 6).toInt ≤ (N.1 98 6).toInt) (h : b01 (KV M k) = 1) : b01 (KV N k) = 1 := b01_i (by
  rcases q with q | q
  · exact Or.inl q
  · rcases b01_e h with h | ⟨h1, h2, h3, h4, h5⟩
    · exact absurd q.1 h
    · right
      refine ⟨by rw [hc]; omega, b01_e (od_c hc (b01_i h2)), by rw [hc]; exact h3, by rw [hc]; exact h4, ?_⟩
      unfold FL; rw [hc]; exact h5)
theorem kv_w {M M' : mm_M} {p : Nat} {v : Int32} {k : Int} (e : M' = wI M 102 p v) (hb : ∀ l : Nat, l < 2 → 0 ≤ (M.1 102 (4 + l)).toInt) (q : 28 ≤ p ∧ p ≤ 48) (h : b01 (KV M k) = 1) : b01 (KV M' k) = 1 := b01_i (by
  have e98 : M'.1 98 = M.1 98 := wI_cell e (by decide)
  have hp : ∀ p : Nat, p < 49 → 28 ≤ p → scQ p = false := by decide
  rcases b01_e h with h | ⟨h1, h2, h3, h4, h5⟩
  · left; rw [e98]; exact h
  · right
    exact ⟨by rw [e98, wI_ne e (by omega)]; exact h1, b01_e (od_n e (by omega) (b01_i h2)), by rw [wI_ne e (by omega)]; exact h3, by rw [wI_ne e (by omega)]; exact h4, fl_w e (hp p (by omega) q.1) hb h5⟩)
theorem kv_s {M M' : mm_M} {k x : Int} (e : M' = wI M 102 27 (sI (orI x (pw2 k)))) (hx : x = (M.1 102 27).toInt) (hb : ∀ l : Nat, l < 2 → 0 ≤ (M.1 102 (4 + l)).toInt) (q : 0 ≤ k ∧ k ≤ 7 ∧ 0 ≤ x ∧ -2147483648 ≤ orI x (pw2 k) ∧ orI x (pw2 k) ≤ 2147483647) (h : b01 (KV M k) = 1) : b01 (KV M' k) = 1 := b01_i (by
  have e98 : M'.1 98 = M.1 98 := wI_cell e (by decide)
  rcases b01_e h with h | ⟨h1, h2, h3, h4, h5⟩
  · left; rw [e98]; exact h
  · right
    have ho := or_lt (s := x) (k := k) (K := k + 1) ⟨q.2.2.1, by omega, q.1, by omega, by omega⟩
    exact ⟨by rw [e98, wI_ne e (by decide)]; exact h1, b01_e (od_n e (by decide) (b01_i h2)), by rw [s_wr e ⟨q.2.2.2.1, q.2.2.2.2⟩]; exact ho.2, by rw [wI_ne e (by decide)]; exact h4, fl_w e (by decide) hb h5⟩)
theorem kv_e {M M' : mm_M} {k x : Int} (e : M' = wI M 102 26 (sI (x + 1))) (hx : x = k) (hb : ∀ l : Nat, l < 2 → 0 ≤ (M.1 102 (4 + l)).toInt) (q : 0 ≤ k ∧ k ≤ 7) (h : b01 (KV M k) = 1) : b01 (LV M') = 1 := b01_i (by
  subst hx
  have e98 : M'.1 98 = M.1 98 := wI_cell e (by decide)
  rcases b01_e h with h | ⟨h1, h2, h3, h4, h5⟩
  · left; rw [e98]; exact h
  · right
    have ek : (M'.1 102 26).toInt = x + 1 := s_wr e (by omega)
    exact ⟨by rw [e98, wI_ne e (by decide)]; exact h1, b01_e (od_n e (by decide) (b01_i h2)), by rw [ek, wI_ne e (by decide)]; exact h3, fl_w e (by decide) hb h5⟩)
theorem kv_k {M : mm_M} {k : Int} (h : b01 (KV M k) = 1) (hw : (M.1 98 11).toInt = 0) : (M.1 102 26).toInt = k := by
  rcases b01_e h with h | ⟨h1, h2, h3, h4, h5⟩
  · exact absurd hw h
  · exact h4
theorem lv_ca {M : mm_M} (h : b01 (LV M) = 1) : b01 (CA M) = 1 := b01_i (by
  rcases b01_e h with h | h
  · exact Or.inl h
  · exact Or.inr h.1)
theorem lv_law {M N P1 P2 P : mm_M} {a : Int} {p2 p4 p6 : Nat} (ha : 0 ≤ a ∧ a ≤ 1) (q2 : p2 = 2 + a.toNat) (q4 : p4 = 4 + a.toNat) (q6 : p6 = 6 + a.toNat) (hb : ∀ l : Nat, l < 2 → 0 ≤ (M.1 102 (4 + l)).toInt) (h : b01 (LV M) = 1) (hx : b01 (XW M N 0 1 0) = 1) (hw : (N.1 98 11).toInt = 0) (e1 : P1 = wI N 102 p2 (sI 1)) (e2 : P2 = wI P1 102 p4 (sI (M.1 102 280).toInt)) (e3 : P = wI P2 102 p6 (sI ((N.1 102 280).toInt - (M.1 102 280).toInt))) (q : 0 ≤ (M.1 102 280).toInt ∧ (N.1 102 280).toInt ≤ 900) : b01 (LV P) = 1 := b01_i (by
  have ex := xw_e hx hw
  obtain ⟨w0, -⟩ := xw_n hx hw
  subst q2; subst q4; subst q6
  rcases b01_e hx with hx | ⟨x1, x2, x3⟩
  · exact absurd hw hx
  rcases b01_e h with h | ⟨h1, h2, h3, h4⟩
  · exact absurd w0 h
  have fl := fl_law (l := a.toNat) (by omega) hb (b01_i h4) ex e1 e2 e3 q
  have e98 : P.1 98 = N.1 98 := (wI_cell e3 (by decide)).trans ((wI_cell e2 (by decide)).trans (wI_cell e1 (by decide)))
  have sm : ∀ p : Nat, 8 ≤ p → p ≠ 280 → p < 281 → P.1 102 p = M.1 102 p := fun p hp1 hp2 hp3 => by
    rw [wI_ne e3 (by omega), wI_ne e2 (by omega), wI_ne e1 (by omega), x3.2.1 p hp2 (by omega)]
  have p280 : P.1 102 280 = N.1 102 280 := by rw [wI_ne e3 (by omega), wI_ne e2 (by omega), wI_ne e1 (by omega)]
  right
  refine ⟨by rw [e98, p280]; omega, fun p hp1 hp2 => by rw [sm p (by omega) (by omega) (by omega)]; exact h2 p hp1 hp2, by rw [sm 27 (by decide) (by decide) (by decide), sm 26 (by decide) (by decide) (by decide)]; exact h3, b01_e fl⟩)
def w01 (M : mm_M) : Int := if (M.1 98 11).toInt = 0 then 1 else 0
theorem w01_s (M : mm_M) : (M.1 98 11).toInt = 0 ∧ w01 M = 1 ∨ ¬ (M.1 98 11).toInt = 0 ∧ w01 M = 0 := by
  unfold w01; split <;> simp [*]
theorem lv_z {M : mm_M} (hz : b01 (ZR M 1181) = 1) (hA : 0 ≤ (M.1 98 6).toInt) : b01 (LV M) = 1 := b01_i (by
  obtain ⟨z1, z2, z3, z4, z5⟩ := zr_fl hz
  right
  rw [z3, z4, z5]
  exact ⟨hA, b01_e z2, by decide, b01_e z1⟩)
theorem zr_c {M N : mm_M} {k : Int} (hc : N.1 102 = M.1 102) (h : b01 (ZR M k) = 1) : b01 (ZR N k) = 1 := b01_i (by unfold ZR; rw [hc]; exact b01_e h)
/-! COPIES of all[] -/
def CWA (M : mm_M) : Prop := ∀ j : Nat, j < 3 → zwB (fun k => M.1 99 (1181 * j + k))
def CPX (M B : mm_M) (d c2 s : Nat) (k : Int) : Prop := (∀ p : Nat, d ≤ p → (p : Int) < d + k → M.1 99 p = B.1 c2 (s + (p - d))) ∧ (∀ p : Nat, (p < d ∨ (d : Int) + k ≤ p) → M.1 99 p = B.1 99 p) ∧ M.1 102 = B.1 102 ∧ M.1 105 = B.1 105
theorem cx_0 (M : mm_M) (d c2 s : Nat) : b01 (CPX M M d c2 s 0) = 1 := b01_i ⟨fun p h1 h2 => by omega, fun p h => rfl, rfl, rfl⟩
theorem cx_s {M M' B : mm_M} {d c2 s pd : Nat} {k : Int} {v : Int32} (e : M' = wI M 99 pd v) (hk : 0 ≤ k) (hpd : pd = d + k.toNat) (hv : v = B.1 c2 (s + k.toNat)) (h : b01 (CPX M B d c2 s k) = 1) : b01 (CPX M' B d c2 s (k + 1)) = 1 := b01_i (by
  obtain ⟨h1, h2, h3, h4⟩ := b01_e h
  refine ⟨fun p q1 q2 => ?_, fun p q => ?_, (wI_cell e (by decide)).trans h3, (wI_cell e (by decide)).trans h4⟩
  · by_cases z : p = pd
    · subst z
      have e1 : M'.1 99 p = v := by rw [e]; exact u2_s M.1 99 p v
      rw [e1, hv, show s + (p - d) = s + k.toNat by omega]
    · rw [wI_ne e z]; exact h1 p q1 (by omega)
  · rw [wI_ne e (by omega)]; exact h2 p (by omega))
theorem cx_r {M B : mm_M} {d c2 s : Nat} {k : Int} (h : b01 (CPX M B d c2 s k) = 1) (p : Nat) (q : p < d ∨ (d : Int) + k ≤ p) : M.1 99 p = B.1 99 p := (b01_e h).2.1 p q
theorem cx_f {M B : mm_M} {d c2 s : Nat} {k : Int} (h : b01 (CPX M B d c2 s k) = 1) : M.1 102 = B.1 102 := (b01_e h).2.2.1
theorem zwB_c {f g : Nat → Int32} (hb : ∀ l : Nat, l < 2 → 0 ≤ (f (4 + l)).toInt) (h : ∀ p : Nat, p < 1181 → g p = f p) (hz : zwB f) : zwB g := by
  refine ⟨zwL_c (h _ (by decide)) (h _ (by decide)) (h _ (by decide)) (fun p h1 h2 => h p ?_) (hb 0 (by decide)) hz.1, zwL_c (h _ (by decide)) (h _ (by decide)) (h _ (by decide)) (fun p h1 h2 => h p ?_) (hb 1 (by decide)) hz.2⟩
  · have := hz.1.1; omega
  · have := hz.2.1; omega
theorem h99b {pr : Nat → Nat → Bool} {Kz M : mm_M} (h : INV pr Kz M) (j : Nat) (hj : j < 3) : ∀ l : Nat, l < 2 → 0 ≤ (M.1 99 (1181 * j + (4 + l))).toInt := by
  intro l hl
  have hh : ∀ j, j < 3 → ∀ l, l < 2 → (s_b 45 (1181 * j + (4 + l))) = (0, 900) := by decide
  exact (INV.rd h (i := 99) (c := 45) rfl (hh j hj l hl)).1
/-- a copy of a whole part of all[], out of another part -/
theorem cx_99 {pr : Nat → Nat → Bool} {Kz M B : mm_M} (hB : INV pr Kz B) {a b : Nat} (ha : a < 3) (hb : b < 3) {d s : Nat} (hd : d = 1181 * a) (hs : s = 1181 * b) (h : b01 (CPX M B d 99 s 1181) = 1) (hp : b01 (PI B) = 1) (hc : b01 (CWA B) = 1) : b01 (PI M) = 1 ∧ b01 (CWA M) = 1 := by
  obtain ⟨h1, h2, h3, h4⟩ := b01_e h
  subst hd; subst hs
  have inn : ∀ k : Nat, k < 1181 → M.1 99 (1181 * a + k) = B.1 99 (1181 * b + k) := fun k hk => by
    rw [h1 _ (by omega) (by omega), show 1181 * a + k - 1181 * a = k by omega]
  constructor
  · refine b01_i (fun c o hc => ?_)
    rcases ppQ_c hc with rfl | rfl
    · have hm : o % 1181 < 1181 := Nat.mod_lt _ (by decide)
      by_cases z : o / 1181 = a
      · have eo : o = 1181 * a + o % 1181 := by omega
        have hlt : o % 1181 + 1 < 1181 := by
          unfold ppQ at hc
          simp only [Bool.or_eq_true, Bool.and_eq_true, Nat.beq_eq] at hc
          rcases hc with ⟨-, hc | hc⟩ | hc
          · omega
          · have := Nat.le_of_ble_eq_true hc.1.2; omega
          · omega
        have hq : ppQ 99 (1181 * b + o % 1181) = true := by
          unfold ppQ at hc ⊢
          rw [show (1181 * b + o % 1181) % 1181 = o % 1181 by omega]
          simpa using hc
        have := b01_e hp 99 _ hq
        unfold pkF at *
        rw [eo, Nat.add_assoc, inn _ hm, inn _ hlt]; exact this
      · have := b01_e hp 99 o hc
        have hlt : (o + 1) / 1181 = o / 1181 := by
          unfold ppQ at hc
          simp only [Bool.or_eq_true, Bool.and_eq_true, Nat.beq_eq] at hc
          rcases hc with ⟨-, hc | hc⟩ | hc
          · omega
          · have := Nat.le_of_ble_eq_true hc.1.2; omega
          · omega
        unfold pkF at *
        rw [h2 o (by omega), h2 (o + 1) (by omega)]; exact this
    · have := b01_e hp 105 o hc
      rw [h4]; exact this
  · refine b01_i (fun j hj => ?_)
    by_cases z : j = a
    · subst z
      exact zwB_c (h99b hB b hb) (fun p hp => inn p hp) (b01_e hc b hb)
    · exact zwB_c (h99b hB j hj) (fun p hp => h2 _ (by omega)) (b01_e hc j hj)
theorem cx_102 {pr : Nat → Nat → Bool} {Kz M B : mm_M} (hB : INV pr Kz B) (h : b01 (CPX M B 0 102 0 1181) = 1) (hp : b01 (PI B) = 1) (hc : b01 (CWA B) = 1) (hl : b01 (LV B) = 1) (hw : (B.1 98 11).toInt = 0) : b01 (PI M) = 1 ∧ b01 (CWA M) = 1 := by
  obtain ⟨h1, h2, h3, h4⟩ := b01_e h
  obtain ⟨l1, l2, l3, l4⟩ : (B.1 102 280).toInt ≤ (B.1 98 6).toInt ∧ ODP B ∧ (B.1 102 27).toInt < pw2 (B.1 102 26).toInt ∧ FL B := by
    rcases b01_e hl with hl | hl
    · exact absurd hw hl
    · exact hl
  have inn : ∀ k : Nat, k < 1181 → M.1 99 k = B.1 102 k := fun k hk => by
    rw [h1 _ (by omega) (by omega), show 0 + (k - 0) = k by omega]
  constructor
  · refine b01_i (fun c o hc => ?_)
    rcases ppQ_c hc with rfl | rfl
    · by_cases z : o < 1181
      · unfold ppQ at hc
        rw [Nat.mod_eq_of_lt z] at hc
        simp only [Bool.or_eq_true, Bool.and_eq_true, Nat.beq_eq] at hc
        rcases hc with ⟨-, hc | hc⟩ | hc
        · subst hc
          unfold pkF; rw [inn _ (by decide), inn _ (by decide)]; exact l3
        · have g1 := Nat.le_of_ble_eq_true hc.1.1
          have g2 := Nat.le_of_ble_eq_true hc.1.2
          have := l4.2 ((o - 50) / 23) (by omega)
          have eo : 50 + 23 * ((o - 50) / 23) = o := by have := hc.2; omega
          rw [eo] at this
          unfold pkF at *
          rw [inn _ (by omega), inn _ (by omega)]; exact this
        · omega
      · have := b01_e hp 99 o hc
        unfold pkF at *
        rw [h2 o (by omega), h2 (o + 1) (by omega)]; exact this
    · have := b01_e hp 105 o hc
      rw [h4]; exact this
  · refine b01_i (fun j hj => ?_)
    by_cases z : j = 0
    · subst z
      exact zwB_c (h4b hB) (fun p hp => by rw [Nat.mul_zero, Nat.zero_add]; exact inn p hp) l4.1.1
    · exact zwB_c (h99b hB j hj) (fun p hp => h2 _ (by omega)) (b01_e hc j hj)
theorem cwa_c {M N : mm_M} (h : N.1 99 = M.1 99) (hc : b01 (CWA M) = 1) : b01 (CWA N) = 1 := b01_i (by unfold CWA; rw [h]; exact b01_e hc)
theorem cwa_w {pr : Nat → Nat → Bool} {Kz M M' : mm_M} (hM : INV pr Kz M) {v : Int32} (e : M' = wI M 99 49 v) (hc : b01 (CWA M) = 1) : b01 (CWA M') = 1 := b01_i (by
  intro j hj
  obtain ⟨z0, z1⟩ := b01_e hc j hj
  have ne : ∀ p : Nat, p ≠ 49 → M'.1 99 p = M.1 99 p := fun p hp => wI_ne e hp
  exact ⟨zwL_c (ne _ (by omega)) (ne _ (by omega)) (ne _ (by omega)) (fun p h1 h2 => ne _ (by omega)) (h99b hM j hj 0 (by decide)) z0, zwL_c (ne _ (by omega)) (ne _ (by omega)) (ne _ (by omega)) (fun p h1 h2 => ne _ (by omega)) (h99b hM j hj 1 (by decide)) z1⟩)
theorem q_i (x y : Int) (h : 0 ≤ x ∧ x < 1181 ∧ 0 ≤ y ∧ y ≤ 2) : s_b 45 (1181 * y + x).toNat = s_b 45 x.toNat := by
  rw [b45, b45]; congr 1; omega
theorem q_f {x v : Int} (h : 0 ≤ x ∧ x < 1181) (hv : (s_b 48 x.toNat).1 ≤ v ∧ v ≤ (s_b 48 x.toNat).2) (ho : 20 ≤ x → x ≤ 25 → v ≤ 9) : (s_b 45 x.toNat).1 ≤ v ∧ v ≤ (s_b 45 x.toNat).2 := by
  rw [b45, Nat.mod_eq_of_lt (by omega)]
  have e48 : s_b 48 x.toNat = bf x.toNat := rfl
  rw [e48] at hv
  unfold bf at hv
  by_cases z : 20 ≤ x.toNat ∧ x.toNat ≤ 25
  · rw [if_pos z] at hv
    have : bz x.toNat = (0, 9) := by
      unfold bz; rw [if_neg (by omega), if_neg (by omega), if_pos z]
    rw [this]; exact ⟨hv.1, ho (by omega) (by omega)⟩
  · rw [if_neg z] at hv; exact hv
theorem lv_od {M : mm_M} (h : b01 (LV M) = 1) (hw : (M.1 98 11).toInt = 0) (x : Int) (h1 : 20 ≤ x) (h2 : x ≤ 25) : (M.1 102 x.toNat).toInt ≤ 9 := by
  rcases b01_e h with h | h
  · exact absurd hw h
  · exact h.2.1 x.toNat (by omega) (by omega)
