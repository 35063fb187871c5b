theorem bo_m1s (f : Nat → Int32) (b s : Int) : ∀ n : Nat, -1 ≤ (boS f b s n).1
  | 0 => Int.le_refl _
  | n + 1 => by
    have ih := bo_m1s f b s n
    rw [boS]
    unfold boT
    repeat' split
    all_goals first | exact ih | (show (-1 : Int) ≤ (n : Int); omega)
theorem bo_m1g (f : Nat → Int32) (b s : Int) : -1 ≤ boF f b s := bo_m1s f b s _
/-! THE ENDING: how many visits at the fewest, buyer a away -/
def stE (g : Int → Int) (f : Nat → Int32) (a s b v : Int) : Int := if b = a ∨ boF f b s = -1 ∨ ¬ iiF s (boF f b s) = 0 then v else if g (orI s (pw2 (boF f b s))) + 1 < v then g (orI s (pw2 (boF f b s))) + 1 else v
def edE (g : Int → Int) (f : Nat → Int32) (a s : Int) : Nat → Int
  | 0 => if shF f s = 1 then 0 else 268435456
  | n + 1 => stE g f a s (n : Int) (edE g f a s n)
def edN (f : Nat → Int32) (a : Int) : Nat → Int → Int
  | 0, _ => 268435456
  | n + 1, s => edE (edN f a n) f a s (f 1).toInt.toNat
def edF (f : Nat → Int32) (a s : Int) : Int := edN f a (256 - s).toNat s
theorem edE_c {g h : Int → Int} {f : Nat → Int32} {a s : Int} (H : ∀ k : Int, 0 ≤ k → k ≤ 7 → iiF s k = 0 → g (orI s (pw2 k)) = h (orI s (pw2 k))) (hk : (f 26).toInt ≤ 8) (h0 : 0 ≤ (f 26).toInt) : ∀ n : Nat, edE g f a s n = edE h f a s n
  | 0 => rfl
  | n + 1 => by
    rw [edE, edE, edE_c H hk h0 n]
    unfold stE
    by_cases c : (n : Int) = a ∨ boF f (n : Int) s = -1 ∨ ¬ iiF s (boF f (n : Int) s) = 0
    · rw [if_pos c, if_pos c]
    · rw [if_neg c, if_neg c]
      have l := boF_lt f (n : Int) s h0
      have m : -1 ≤ boF f (n : Int) s := bo_m1g f (n : Int) s
      rw [H (boF f (n : Int) s) (by omega) (by omega) (by omega)]
theorem edN_f {f : Nat → Int32} {a : Int} (hk : (f 26).toInt ≤ 8) (h0 : 0 ≤ (f 26).toInt) : ∀ (m n : Nat) (s : Int), 0 ≤ s → s ≤ 255 → 256 - s ≤ (m : Int) → 256 - s ≤ (n : Int) → edN f a m s = edN f a n s
  | 0, n, s, h1, h2, h3, h4 => by omega
  | m + 1, 0, s, h1, h2, h3, h4 => by omega
  | m + 1, n + 1, s, h1, h2, h3, h4 => by
    rw [edN, edN]
    refine edE_c (fun k q0 q1 q2 => ?_) hk h0 _
    have l := ii_orI (s := s) (k := k) ⟨h1, h2, q0, q1⟩ q2
    have u := or_lt (s := s) (k := k) (K := 8) ⟨h1, by show s < 256; omega, q0, by omega, by omega⟩
    have u2 : orI s (pw2 k) < 256 := u.2
    exact edN_f hk h0 m n _ u.1 (by omega) (by omega) (by omega)
theorem edF_e {f : Nat → Int32} {a s : Int} (hk : 0 ≤ (f 26).toInt ∧ (f 26).toInt ≤ 8) (hs : 0 ≤ s ∧ s ≤ 255) : edF f a s = edE (edF f a) f a s (f 1).toInt.toNat := by
  unfold edF
  rw [show (256 - s).toNat = (255 - s).toNat + 1 by omega, edN]
  refine edE_c (fun k q0 q1 q2 => ?_) hk.2 hk.1 _
  have l := ii_orI (s := s) (k := k) ⟨hs.1, hs.2, q0, q1⟩ q2
  have u := or_lt (s := s) (k := k) (K := 8) ⟨hs.1, by show s < 256; omega, q0, by omega, by omega⟩
  have u2 : orI s (pw2 k) < 256 := u.2
  exact edN_f hk.2 hk.1 _ _ _ u.1 (by omega) (by omega) (by omega)
theorem edN_b {f : Nat → Int32} {a : Int} (hk : (f 26).toInt ≤ 8) (h0 : 0 ≤ (f 26).toInt) : ∀ (m : Nat) (s : Int), 0 ≤ s → s ≤ 255 → edN f a m s = 268435456 ∨ (0 ≤ edN f a m s ∧ edN f a m s ≤ 255 - s)
  | 0, s, _, _ => Or.inl rfl
  | m + 1, s, h1, h2 => by
    rw [edN]
    generalize (f 1).toInt.toNat = n
    induction n with
    | zero =>
      rw [edE]
      split
      · exact Or.inr ⟨by omega, by omega⟩
      · exact Or.inl rfl
    | succ n ih =>
      rw [edE]
      unfold stE
      split
      · exact ih
      · split
        · rename_i c d
          have l' := boF_lt f (n : Int) s h0
          have m' : -1 ≤ boF f (n : Int) s := bo_m1g f (n : Int) s
          have l := ii_orI (s := s) (k := boF f (n : Int) s) ⟨h1, h2, by omega, by omega⟩ (by omega)
          have u := or_lt (s := s) (k := boF f (n : Int) s) (K := 8) ⟨h1, by show s < 256; omega, by omega, by omega, by omega⟩
          have u2 : orI s (pw2 (boF f (n : Int) s)) < 256 := u.2
          have b := edN_b (a := a) hk h0 m (orI s (pw2 (boF f (n : Int) s))) u.1 (by omega)
          omega
        · exact ih
theorem edF_b {f : Nat → Int32} {a s : Int} (hk : 0 ≤ (f 26).toInt ∧ (f 26).toInt ≤ 8) (hs : 0 ≤ s ∧ s ≤ 255) : edF f a s = 268435456 ∨ (0 ≤ edF f a s ∧ edF f a s ≤ 255 - s) := edN_b hk.2 hk.1 _ s hs.1 hs.2
theorem edE_0 (g : Int → Int) (f : Nat → Int32) (a s : Int) : (shF f s = 1 ∧ edE g f a s (0 : Int).toNat = 0) ∨ (¬ shF f s = 1 ∧ edE g f a s (0 : Int).toNat = 268435456) := by
  show (shF f s = 1 ∧ edE g f a s 0 = 0) ∨ (¬ shF f s = 1 ∧ edE g f a s 0 = 268435456)
  rw [edE]
  split
  · exact Or.inl ⟨by assumption, rfl⟩
  · exact Or.inr ⟨by assumption, rfl⟩
theorem edE_s {f : Nat → Int32} {a s b b' v : Int} (g : Int → Int) (hb : 0 ≤ b ∧ b' = b + 1) (hv : v = edE g f a s b.toNat) : ((b = a ∨ boF f b s = -1 ∨ ¬ iiF s (boF f b s) = 0) ∧ edE g f a s b'.toNat = v) ∨ ((¬ b = a ∧ ¬ boF f b s = -1 ∧ iiF s (boF f b s) = 0) ∧ ((g (orI s (pw2 (boF f b s))) + 1 < v ∧ edE g f a s b'.toNat = g (orI s (pw2 (boF f b s))) + 1) ∨ (¬ g (orI s (pw2 (boF f b s))) + 1 < v ∧ edE g f a s b'.toNat = v))) := by
  obtain ⟨h0, rfl⟩ := hb
  rw [show (b + 1).toNat = b.toNat + 1 by omega, edE, ← hv, show ((b.toNat : Nat) : Int) = b by omega]
  unfold stE
  split
  · exact Or.inl ⟨by assumption, rfl⟩
  · rename_i c
    right
    refine ⟨by omega, ?_⟩
    split
    · exact Or.inl ⟨by assumption, rfl⟩
    · exact Or.inr ⟨by assumption, rfl⟩
/-- a valid visit is never more than one step nearer -/
theorem edE_le {g : Int → Int} {f : Nat → Int32} {a s : Int} {b : Nat} (h : ¬ ((b : Int) = a ∨ boF f (b : Int) s = -1 ∨ ¬ iiF s (boF f (b : Int) s) = 0)) : ∀ n : Nat, b < n → edE g f a s n ≤ g (orI s (pw2 (boF f (b : Int) s))) + 1
  | 0, q => by omega
  | n + 1, q => by
    rw [edE]
    by_cases c : b = n
    · subst c
      unfold stE
      rw [if_neg h]
      split <;> omega
    · have ih := edE_le (g := g) h n (by omega)
      unfold stE
      split
      · exact ih
      · split
        · omega
        · exact ih
theorem edE_ex {g : Int → Int} {f : Nat → Int32} {a s : Int} : ∀ n : Nat, edE g f a s n = (if shF f s = 1 then 0 else 268435456) ∨ ∃ b : Nat, b < n ∧ ¬ ((b : Int) = a ∨ boF f (b : Int) s = -1 ∨ ¬ iiF s (boF f (b : Int) s) = 0) ∧ edE g f a s n = g (orI s (pw2 (boF f (b : Int) s))) + 1
  | 0 => Or.inl rfl
  | n + 1 => by
    have ih := edE_ex (g := g) (f := f) (a := a) (s := s) n
    rw [edE]
    have keep : edE g f a s n = (if shF f s = 1 then 0 else 268435456) ∨ ∃ b : Nat, b < n + 1 ∧ ¬ ((b : Int) = a ∨ boF f (b : Int) s = -1 ∨ ¬ iiF s (boF f (b : Int) s) = 0) ∧ edE g f a s n = g (orI s (pw2 (boF f (b : Int) s))) + 1 := by
      rcases ih with q | ⟨b, q1, q2, q3⟩
      · exact Or.inl q
      · exact Or.inr ⟨b, by omega, q2, q3⟩
    unfold stE
    split
    · exact keep
    · rename_i c
      split
      · exact Or.inr ⟨n, by omega, c, rfl⟩
      · exact keep
/-- the ending's length; NONE: there is none -/
def enF (f : Nat → Int32) (a : Int) : Int := if 268435456 ≤ edF f a (f 27).toInt then -1 else edF f a (f 27).toInt
theorem enF_s (f : Nat → Int32) (a : Int) : (268435456 ≤ edF f a (f 27).toInt ∧ enF f a = -1) ∨ (edF f a (f 27).toInt < 268435456 ∧ enF f a = edF f a (f 27).toInt) := by
  unfold enF
  split
  · exact Or.inl ⟨by assumption, rfl⟩
  · exact Or.inr ⟨by omega, rfl⟩
/-! the row of the ending -/
def nbC (f : Nat → Int32) (s v b : Int) : Prop := ¬ boF f b s = -1 ∧ iiF s (boF f b s) = 0 ∧ edF f (-1) (orI s (pw2 (boF f b s))) = v
noncomputable def nbS (f : Nat → Int32) (s v : Int) : Nat → Int → Int
  | 0, b => b
  | n + 1, b => if b01 (nbC f s v b) = 1 then b else nbS f s v n (b + 1)
theorem nbS_s {f : Nat → Int32} {s v b b' : Int} (hb : b < 6 ∧ b' = b + 1) : (nbC f s v b ∧ nbS f s v (6 - b).toNat b = b) ∨ (¬ nbC f s v b ∧ nbS f s v (6 - b).toNat b = nbS f s v (6 - b').toNat b') := by
  obtain ⟨h0, rfl⟩ := hb
  rw [show (6 - b).toNat = (6 - (b + 1)).toNat + 1 by omega, nbS]
  by_cases c : nbC f s v b
  · rw [if_pos (b01_i c)]; exact Or.inl ⟨c, rfl⟩
  · rw [if_neg (fun q => c (b01_e q))]; exact Or.inr ⟨c, rfl⟩
/-- who comes and what is sold by then, of an ending of m visits -/
noncomputable def roS (f : Nat → Int32) (m : Int) : Nat → Int
  | 0 => (f 27).toInt
  | i + 1 => orI (roS f m i) (pw2 (boF f (nbS f (roS f m i) (m - (i : Int) - 1) 6 0) (roS f m i)))
noncomputable def roB (f : Nat → Int32) (m : Int) (i : Nat) : Int := nbS f (roS f m i) (m - (i : Int) - 1) 6 0
theorem ro_s {f : Nat → Int32} {m i i' s b : Int} (hi : 0 ≤ i ∧ i' = i + 1) (hs : s = roS f m i.toNat) (hb : b = nbS f s (m - i - 1) 6 0) : b = roB f m i.toNat ∧ orI s (pw2 (boF f b s)) = roS f m i'.toNat := by
  obtain ⟨h0, rfl⟩ := hi
  subst hs
  subst hb
  rw [show (i + 1).toNat = i.toNat + 1 by omega, roS]
  unfold roB
  rw [show ((i.toNat : Nat) : Int) = i by omega]
  exact ⟨rfl, rfl⟩
/-! the reference's arrays -/
def LBX (M : mm_M) (f : Nat → Int32) (s b : Int) : Prop := ∀ s' b' : Int, 0 ≤ s' → 0 ≤ b' → b' < (f 1).toInt → (s' < s ∨ s' = s ∧ b' < b) → (M.1 106 (6 * s' + b').toNat).toInt = boF f b' s'
def LBF (M : mm_M) (f : Nat → Int32) : Prop := ∀ s' b' : Int, 0 ≤ s' → 0 ≤ b' → b' < (f 1).toInt → s' ≤ evF f → (M.1 106 (6 * s' + b').toNat).toInt = boF f b' s'
theorem lx_0 (M : mm_M) (f : Nat → Int32) : b01 (LBX M f 0 0) = 1 := b01_i (fun s' b' h0 h1 h2 h3 => absurd h3 (by omega))
theorem lx_s {M M' : mm_M} {f : Nat → Int32} {s b v : Int} (e : M' = wI M 106 (6 * s + b).toNat (sI v)) (h : b01 (LBX M f s b) = 1) (q : (-2147483648 ≤ v ∧ v ≤ 2147483647) ∧ v = boF f b s ∧ 0 ≤ s ∧ 0 ≤ b ∧ b < 6 ∧ (f 1).toInt ≤ 6) : b01 (LBX M' f s (b + 1)) = 1 := b01_i (fun s' b' h0 h1 h2 h3 => by
  by_cases c : s' = s ∧ b' = b
  · obtain ⟨rfl, rfl⟩ := c
    rw [wI_at e, sI_t q.1]; exact q.2.1
  · rw [wI_ne e (show (6 * s' + b').toNat ≠ (6 * s + b).toNat by omega)]
    exact b01_e h s' b' h0 h1 h2 (by omega))
theorem lx_n {M : mm_M} {f : Nat → Int32} {s b : Int} (h : b01 (LBX M f s b) = 1) (q : (f 1).toInt ≤ b) : b01 (LBX M f (s + 1) 0) = 1 := b01_i (fun s' b' h0 h1 h2 h3 => b01_e h s' b' h0 h1 h2 (by omega))
theorem lx_e {M : mm_M} {f : Nat → Int32} {s : Int} (h : b01 (LBX M f s 0) = 1) (q : evF f < s) : b01 (LBF M f) = 1 := b01_i (fun s' b' h0 h1 h2 h3 => b01_e h s' b' h0 h1 h2 (by omega))
theorem lx_c {M N : mm_M} {f : Nat → Int32} {s b : Int} (e : N.1 106 = M.1 106) (h : b01 (LBX M f s b) = 1) : b01 (LBX N f s b) = 1 := b01_i (by unfold LBX; rw [e]; exact b01_e h)
theorem lf_c {M N : mm_M} {f : Nat → Int32} (e : N.1 106 = M.1 106) (h : b01 (LBF M f) = 1) : b01 (LBF N f) = 1 := b01_i (by unfold LBF; rw [e]; exact b01_e h)
theorem lf_g {M : mm_M} {f : Nat → Int32} (h : b01 (LBF M f) = 1) {s b : Int} (q : 0 ≤ s ∧ s ≤ evF f ∧ 0 ≤ b ∧ b < (f 1).toInt) : (M.1 106 (6 * s + b).toNat).toInt = boF f b s := b01_e h s b q.1 q.2.2.1 q.2.2.2 q.2.1
def EDQ (M : mm_M) (f : Nat → Int32) (a s : Int) : Prop := ∀ t : Int, s < t → 0 ≤ t → t ≤ evF f → (M.1 107 t.toNat).toInt = edF f a t
theorem dq_0 (M : mm_M) (f : Nat → Int32) (a s : Int) (h : evF f ≤ s) : b01 (EDQ M f a s) = 1 := b01_i (fun t h1 h2 h3 => by omega)
theorem dq_s {M N : mm_M} {f : Nat → Int32} {a s v : Int} (e : N = wI M 107 s.toNat (sI v)) (h : b01 (EDQ M f a s) = 1) (q : (-2147483648 ≤ v ∧ v ≤ 2147483647) ∧ v = edF f a s ∧ 0 ≤ s) : b01 (EDQ N f a (s + (-1))) = 1 := b01_i (fun t h1 h2 h3 => by
  by_cases c : t = s
  · rw [c, wI_at e, sI_t q.1]; exact q.2.1
  · rw [wI_ne e (show t.toNat ≠ s.toNat by omega)]; exact b01_e h t (by omega) h2 h3)
theorem dq_g {M : mm_M} {f : Nat → Int32} {a s : Int} (h : b01 (EDQ M f a s) = 1) (t : Int) (q : s < t ∧ 0 ≤ t ∧ t ≤ evF f) : (M.1 107 t.toNat).toInt = edF f a t := b01_e h t q.1 q.2.1 q.2.2
theorem dq_c {M N : mm_M} {f : Nat → Int32} {a s : Int} (e : N.1 107 = M.1 107) (h : b01 (EDQ M f a s) = 1) : b01 (EDQ N f a s) = 1 := b01_i (by unfold EDQ; rw [e]; exact b01_e h)
/-- a visit leads to a set of the kinds there -/
theorem bo_ev {f : Nat → Int32} {b s : Int} (hk : 0 ≤ (f 26).toInt ∧ (f 26).toInt ≤ 8) (hs : 0 ≤ s ∧ s ≤ evF f) : -1 ≤ boF f b s ∧ boF f b s < (f 26).toInt ∧ (boF f b s = -1 ∨ (0 ≤ orI s (pw2 (boF f b s)) ∧ orI s (pw2 (boF f b s)) ≤ evF f ∧ (¬ iiF s (boF f b s) = 0 ∨ s < orI s (pw2 (boF f b s))))) := by
  have l := boF_lt f b s hk.1
  have m := bo_m1g f b s
  refine ⟨m, l, ?_⟩
  by_cases c : boF f b s = -1
  · exact Or.inl c
  · right
    have e : evF f = pw2 (f 26).toInt - 1 := rfl
    have u := or_lt (s := s) (k := boF f b s) (K := (f 26).toInt) ⟨hs.1, by omega, by omega, l, hk.2⟩
    have p : pw2 (f 26).toInt ≤ 256 := pw2_m (show (f 26).toInt ≤ 8 by omega)
    refine ⟨u.1, by omega, ?_⟩
    by_cases d : iiF s (boF f b s) = 0
    · exact Or.inr (ii_orI ⟨hs.1, by omega, by omega, by omega⟩ d)
    · exact Or.inl d
theorem evF_b {f : Nat → Int32} (hk : 0 ≤ (f 26).toInt ∧ (f 26).toInt ≤ 8) : 0 ≤ evF f ∧ evF f ≤ 255 := by
  have e : evF f = pw2 (f 26).toInt - 1 := rfl
  have p : pw2 (f 26).toInt ≤ 256 := pw2_m (show (f 26).toInt ≤ 8 by omega)
  have := pw2_p (f 26).toInt
  omega
def ERW (M : mm_M) (f : Nat → Int32) (m n : Int) : Prop := ∀ i : Nat, (i : Int) < n → (M.1 108 i).toInt = roB f m i
theorem er_0 (M : mm_M) (f : Nat → Int32) (m : Int) : b01 (ERW M f m 0) = 1 := b01_i (fun i h => by omega)
theorem er_s {M N : mm_M} {f : Nat → Int32} {m n n' v : Int} (h : b01 (ERW M f m n) = 1) (e : N = wI M 108 n.toNat (sI v)) (q : 0 ≤ n ∧ n' = n + 1 ∧ (-2147483648 ≤ v ∧ v ≤ 2147483647) ∧ v = roB f m n.toNat) : b01 (ERW N f m n') = 1 := b01_i (fun i hi => by
  by_cases c : i = n.toNat
  · rw [c, wI_at e, sI_t q.2.2.1]; exact q.2.2.2
  · rw [wI_ne e c]; exact b01_e h i (by omega))
/-- the ending's buyers into a tray -/
noncomputable def lsJ (f : Nat → Int32) (g : Nat → Int64) (a n : Nat) : Nat → Int64 := fun j => if a ≤ j ∧ j < a + n then sJ (roB f (enF f (-1)) (j - a)) else g j
theorem ls_0 (f : Nat → Int32) (g : Nat → Int64) (a : Nat) : b01 (g = lsJ f g a (0 : Int).toNat) = 1 := b01_i (by funext j; unfold lsJ; rw [if_neg (by omega)])
theorem ls_s {M N : mm_M} {f : Nat → Int32} {g : Nat → Int64} {a p : Nat} {x x' v : Int} (h : b01 (M.2.1 117 = lsJ f g a x.toNat) = 1) (e : N = wJ M 117 p (sJ v)) (q : 0 ≤ x ∧ x' = x + 1 ∧ p = a + x.toNat ∧ v = roB f (enF f (-1)) x.toNat) : b01 (N.2.1 117 = lsJ f g a x'.toNat) = 1 := b01_i (by
  rw [uJ_w e, b01_e h]
  funext j
  unfold uJ lsJ
  by_cases c : j = p
  · rw [if_pos c, if_pos (by omega), q.2.2.2, show j - a = x.toNat by omega]
  · rw [if_neg c]
    by_cases d : a ≤ j ∧ j < a + x.toNat
    · rw [if_pos d, if_pos (by omega)]
    · rw [if_neg d, if_neg (by omega)])
/-- lists(): how many, or why not -/
def lsA (no m n : Int) : Int := if no = 0 then (if m = -1 then -5 else if m < n then m else n) else no
theorem lsA_s (no m n : Int) : (¬ no = 0 ∧ lsA no m n = no) ∨ (no = 0 ∧ m = -1 ∧ lsA no m n = -5) ∨ (no = 0 ∧ ¬ m = -1 ∧ m < n ∧ lsA no m n = m) ∨ (no = 0 ∧ ¬ m = -1 ∧ ¬ m < n ∧ lsA no m n = n) := by
  unfold lsA; repeat' split
  all_goals omega
noncomputable def ebA (f : Nat → Int32) (i : Int) : Int := if i < 0 then -3 else if i < enF f (-1) then roB f (enF f (-1)) i.toNat else -1
theorem ebA_s (f : Nat → Int32) (i : Int) : (i < 0 ∧ ebA f i = -3) ∨ (0 ≤ i ∧ i < enF f (-1) ∧ ebA f i = roB f (enF f (-1)) i.toNat) ∨ (0 ≤ i ∧ ¬ i < enF f (-1) ∧ ebA f i = -1) := by
  unfold ebA; repeat' split
  all_goals omega
theorem nbC_s (f : Nat → Int32) (s v b : Int) : nbC f s v b ∨ boF f b s = -1 ∨ ¬ iiF s (boF f b s) = 0 ∨ ¬ edF f (-1) (orI s (pw2 (boF f b s))) = v := by
  unfold nbC
  by_cases h1 : boF f b s = -1
  · exact Or.inr (Or.inl h1)
  by_cases h2 : iiF s (boF f b s) = 0
  · by_cases h3 : edF f (-1) (orI s (pw2 (boF f b s))) = v
    · exact Or.inl ⟨h1, h2, h3⟩
    · exact Or.inr (Or.inr (Or.inr h3))
  · exact Or.inr (Or.inr (Or.inl h2))
theorem nbS_t {f : Nat → Int32} {s v b b' : Int} (hb : b < 6 ∧ b' = b + 1) : ((¬ boF f b s = -1 ∧ iiF s (boF f b s) = 0 ∧ edF f (-1) (orI s (pw2 (boF f b s))) = v) ∧ nbS f s v (6 - b).toNat b = b) ∨ ((boF f b s = -1 ∨ ¬ iiF s (boF f b s) = 0 ∨ ¬ edF f (-1) (orI s (pw2 (boF f b s))) = v) ∧ nbS f s v (6 - b).toNat b = nbS f s v (6 - b').toNat b') := by
  rcases nbS_s (f := f) (s := s) (v := v) hb with q | q
  · exact Or.inl ⟨q.1, q.2⟩
  · refine Or.inr ⟨?_, q.2⟩
    rcases nbC_s f s v b with r | r
    · exact absurd r q.1
    · exact r
