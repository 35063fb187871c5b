/-! CONTENTS of what is read: rows T in the reference's layout -/
def uT (T : Nat → Int) (k : Nat) (v : Int) : Nat → Int := fun j => if j = k then v else T j
theorem uT_s {T : Nat → Int} {k : Nat} {v : Int} : uT T k v k = v := if_pos rfl
theorem uT_o {T : Nat → Int} {k j : Nat} {v : Int} (h : j ≠ k) : uT T k v j = T j := if_neg h
def emT (c : Int) (T : Nat → Int) : Nat → Int := uT (uT T (281 + T 280).toNat c) 280 (T 280 + 1)
def emL : List Int → (Nat → Int) → Nat → Int
  | [], T => T
  | c :: L, T => emL L (emT c T)
theorem emL_a : ∀ (L K : List Int) (T : Nat → Int), emL (L ++ K) T = emL K (emL L T)
  | [], _, _ => rfl
  | c :: L, K, T => emL_a L K (emT c T)
section RC
variable {A : mm_M → Int × Int × Int × Int → (Nat → Int) → Prop}
/-- a fault, or these codes were written -/
def CL (A : mm_M → Int × Int × Int × Int → (Nat → Int) → Prop) (a : Int) (M N : mm_M) (L : List Int) : Prop := ¬ a = 0 ∨ ∀ q T, A M q T → A N q (emL L T)
def CT (A : mm_M → Int × Int × Int × Int → (Nat → Int) → Prop) (a : Int) (M N : mm_M) (g : (Nat → Int) → Nat → Int) : Prop := ¬ a = 0 ∨ ∀ q T, A M q T → A N q (g T)
theorem cl_n {a : Int} {M N : mm_M} (L : List Int) (h : ¬ a = 0) : b01 (CL A a M N L) = 1 := b01_i (Or.inl h)
theorem cl_r {M N : mm_M} (a : Int) (h : ∀ q T, A M q T → A N q T) : b01 (CL A a M N []) = 1 := b01_i (Or.inr h)
theorem cl_t {a1 a2 : Int} {M N O : mm_M} {L K : List Int} (h1 : b01 (CL A a1 M N L) = 1) (h2 : b01 (CL A a2 N O K) = 1) (z : a2 = 0 → a1 = 0) : b01 (CL A a2 M O (L ++ K)) = 1 := b01_i (by
  by_cases c : a2 = 0
  · right
    intro q T h
    have x := (b01_e h1).resolve_left (fun w => w (z c)) q T h
    have y := (b01_e h2).resolve_left (fun w => w c) q _ x
    rw [emL_a]; exact y
  · exact Or.inl c)
theorem cl_e {a : Int} {M N : mm_M} {L K : List Int} (h : b01 (CL A a M N L) = 1) (e : a = 0 → K = L) : b01 (CL A a M N K) = 1 := b01_i (by
  by_cases c : a = 0
  · rw [e c]; exact b01_e h
  · exact Or.inl c)
theorem ct_n {a : Int} {M N : mm_M} (g : (Nat → Int) → Nat → Int) (h : ¬ a = 0) : b01 (CT A a M N g) = 1 := b01_i (Or.inl h)
theorem ct_r {M N : mm_M} (a : Int) (h : ∀ q T, A M q T → A N q T) : b01 (CT A a M N (fun T => T)) = 1 := b01_i (Or.inr h)
theorem ct_t {a1 a2 : Int} {M N O : mm_M} {g h : (Nat → Int) → Nat → Int} (h1 : b01 (CT A a1 M N g) = 1) (h2 : b01 (CT A a2 N O h) = 1) (z : a2 = 0 → a1 = 0) : b01 (CT A a2 M O (fun T => h (g T))) = 1 := b01_i (by
  by_cases c : a2 = 0
  · exact Or.inr (fun q T x => (b01_e h2).resolve_left (fun w => w c) q _ ((b01_e h1).resolve_left (fun w => w (z c)) q T x))
  · exact Or.inl c)
theorem ct_e {a : Int} {M N : mm_M} {g k : (Nat → Int) → Nat → Int} (h : b01 (CT A a M N g) = 1) (e : a = 0 → ∀ T, k T = g T) : b01 (CT A a M N k) = 1 := b01_i (by
  by_cases c : a = 0
  · exact Or.inr (fun q T x => by rw [e c T]; exact (b01_e h).resolve_left (fun w => w c) q T x)
  · exact Or.inl c)
theorem ct_c {a : Int} {M N : mm_M} {L : List Int} (h : b01 (CL A a M N L) = 1) : b01 (CT A a M N (emL L)) = 1 := h
theorem rr_z {T : Int × Int × Int} {a b a' b' p' : Int} (h : b01 (RR T a b a' b' p') = 1) (h0 : a' = 0) : a = 0 := by
  by_cases c : a = 0
  · exact c
  · have := (rr_k T a b a' b' p' h c).1; omega
theorem rr_v {T : Int × Int × Int} {a b a' b' p' : Int} (h : b01 (RR T a b a' b' p') = 1) (h0 : a' = 0) : T.1 = 0 ∧ p' = T.2.2 := by
  rcases b01_e h with q | q
  · omega
  · have := q.2.2; omega
/-! loops over codes -/
def LC (A : mm_M → Int × Int × Int × Int → (Nat → Int) → Prop) (a : Int) (FL : Int → List Int) (s i : Int) (MB M : mm_M) : Prop := ¬ a = 0 ∨ ∃ L, FL s = L ++ FL i ∧ ∀ q T, A MB q T → A M q (emL L T)
theorem lc_0 (a : Int) (FL : Int → List Int) (s : Int) (M : mm_M) : b01 (LC A a FL s s M M) = 1 := b01_i (Or.inr ⟨[], rfl, fun _ _ h => h⟩)
section RC2
variable (f : Nat → Int) (n : Int)
theorem lc_s (t u : Int) (G : Int → Int × Int × Int) (GL : Int → List Int) (hab : ¬ t = 3001 ∧ ¬ u = 3001) (hG : PG n G) {s i a1 p1 a2 b2 a3 b3 p3 a4 : Int} {MB M N : mm_M} (h : b01 (LC A a1 (luL f n t u G GL) s i MB M) = 1) (hp : b01 (PO n i a1 p1) = 1) (ht : tkF f n p1 = t ∨ tkF f n p1 = u) (hr : b01 (RR (G (nxF f n i)) a2 b2 a3 b3 p3) = 1) (h21 : a2 = 0 → a1 = 0) (h2 : b01 (CL A a4 M N (GL (nxF f n i) ++ [cmF (tkF f n p1)])) = 1) (h43 : a4 = 0 → a3 = 0) : b01 (LC A a4 (luL f n t u G GL) s (G (nxF f n i)).2.2 MB N) = 1 := b01_i (by
  by_cases c : a4 = 0
  · right
    have z3 := h43 c
    have z2 := rr_z hr z3
    have z1 := h21 z2
    obtain ⟨rfl, i0, i1⟩ := po_0 hp z1
    have g := (rr_v hr z3).1
    obtain ⟨L, e1, e2⟩ := (b01_e h).resolve_left (fun w => w z1)
    refine ⟨L ++ (GL (nxF f n p1) ++ [cmF (tkF f n p1)]), ?_, fun q T x => ?_⟩
    · rw [e1, luL_y f n hab hG p1 ⟨i0, i1⟩ ht g]; simp
    · rw [emL_a]; exact (b01_e h2).resolve_left (fun w => w c) q _ (e2 q T x)
  · exact Or.inl c)
theorem lc_e (t u : Int) (G : Int → Int × Int × Int) (GL : Int → List Int) (hab : ¬ t = 3001 ∧ ¬ u = 3001) {F : Int → Int × Int × Int} {s i c a0 b0 a b p : Int} {MB M : mm_M} (h : b01 (LC A a (luL f n t u G GL) s i MB M) = 1) (hl : b01 (LL F n s i c a0 b0 a b p) = 1) (hx : ¬ a = 0 ∨ n ≤ c ∨ (¬ tkF f n p = t ∧ ¬ tkF f n p = u)) : b01 (CL A a MB M (luL f n t u G GL s)) = 1 := b01_i (by
  by_cases z : a = 0
  · right
    obtain ⟨L, e1, e2⟩ := (b01_e h).resolve_left (fun w => w z)
    have k : p = i ∧ 0 ≤ i ∧ i ≤ n ∧ c ≤ i := by
      rcases b01_e hl with q | q | q
      · omega
      · exact ⟨q.2.2.2.2.1, q.2.2.2.2.2.1, q.2.2.2.2.2.2.1, q.2.2.2.2.2.2.2⟩
      · omega
    obtain ⟨rfl, k0, k1, k2⟩ := k
    have T := tkF_v f n p k0
    have e : luL f n t u G GL p = [] := luL_n f n p (by
      rcases hx with w | w | w
      · exact absurd z w
      · have : tkF f n p = 3001 := by unfold tkF; rw [if_neg (by omega)]
        omega
      · exact w)
    intro q T x
    rw [e1, e, List.append_nil]; exact e2 q T x
  · exact Or.inl z)
/-! what a law's codes are at a place -/
theorem at_l1 (d : Bool) (subL : Int → List Int) {i a p : Int} (hp : b01 (PO n i a p) = 1) (h0 : a = 0) (ht : tkF f n p < 1008) : atL f n d subL i = [cmF (tkF f n p)] := by
  obtain ⟨rfl, _⟩ := po_0 hp h0
  unfold atL; rw [if_pos ht, cm_lo ht]
theorem at_l2 (subL : Int → List Int) {i a p : Int} (hp : b01 (PO n i a p) = 1) (h0 : a = 0) (ht : tkF f n p = 2040) : atL f n false subL i = subL (nxF f n i) := by
  obtain ⟨rfl, _⟩ := po_0 hp h0
  unfold atL; rw [if_neg (by omega), if_pos ht, if_neg (by decide)]
theorem un_l1 (r r2 : Nat) (hr : r2 = r + 1) {i a p : Int} (hp : b01 (PO n i a p) = 1) (h0 : a = 0) (ht : tkF f n p = 1016) : uLR f n r2 i = uLR f n r (nxF f n i) ++ [cmF 1016] := by
  obtain ⟨rfl, _⟩ := po_0 hp h0
  subst hr
  show unL f n false _ _ _ _ p = _
  unfold unL; rw [if_pos ht, if_neg (by decide), cm_tab.2.2.2.2.2.2.1]
theorem un_l2 (r r2 : Nat) (hr : r2 = r + 1) {i a p : Int} (hp : b01 (PO n i a p) = 1) (h0 : a = 0) (ht : tkF f n p = 2091) : uLR f n r2 i = trL f n (unR f n r) (uLR f n r) (nxF f n i) := by
  obtain ⟨rfl, _⟩ := po_0 hp h0
  subst hr
  show unL f n false _ _ _ _ p = _
  unfold unL; rw [if_neg (by omega), if_pos ht, if_neg (by decide)]
theorem un_l4 (r : Nat) {i a p a1 p1 : Int} (hp : b01 (PO n i a p) = 1) (h0 : a = 0) (ht : ¬ tkF f n p = 1016 ∧ ¬ tkF f n p = 2091) (hq : b01 (PO n (suR f n r i).2.2 a1 p1) = 1) (h1 : a1 = 0) : uLR f n r i = sLR f n r i ++ (sLR f n r (nxF f n (suR f n r i).2.2) ++ [cmF (tkF f n p1)]) := by
  obtain ⟨rfl, _⟩ := po_0 hp h0
  have e := (po_0 hq h1).1
  rw [e]
  cases r with
  | zero => show unL f n true _ _ _ _ p = _; unfold unL; rw [if_neg ht.1, if_neg ht.2]
  | succ r => show unL f n false _ _ _ _ p = _; unfold unL; rw [if_neg ht.1, if_neg ht.2]
theorem su_l (r r2 : Nat) (hr : r2 = r + 1) (i : Int) : sLR f n r2 i = teL f n false (suR f n r) (sLR f n r) i ++ luL f n 2043 2045 (teP f n false (suR f n r)) (teL f n false (suR f n r) (sLR f n r)) (teP f n false (suR f n r) i).2.2 := by subst hr; rfl
theorem su_l0 (i : Int) : sLR f n 0 i = teL f n true (fun i => (0, 0, i)) (fun _ => []) i ++ luL f n 2043 2045 (teP f n true (fun i => (0, 0, i))) (teL f n true (fun i => (0, 0, i)) (fun _ => [])) (teP f n true (fun i => (0, 0, i)) i).2.2 := rfl
/-! flags, marks -/
def lpT (q : Int → Bool) (st : Int → Int × Int × Int) (GT : Int → (Nat → Int) → Nat → Int) : Nat → Int → (Nat → Int) → Nat → Int
  | 0, _, T => T
  | k + 1, i, T => if q i = true then (if (st i).1 = 0 then lpT q st GT k (st i).2.2 (GT i T) else T) else T
theorem lpT_e {q : Int → Bool} {st : Int → Int × Int × Int} {GT : Int → (Nat → Int) → Nat → Int} (hs : ∀ i, 0 ≤ i → i ≤ n → q i = true → i < n ∧ ((st i).1 = 0 → i < (st i).2.2 ∧ (st i).2.2 ≤ n)) : ∀ (k j : Nat) (i : Int) (T : Nat → Int), 0 ≤ i → i ≤ n → (n - i).toNat < k → (n - i).toNat < j → lpT q st GT k i T = lpT q st GT j i T
  | 0, j, i, T, h0, h1, h2, h3 => by omega
  | k + 1, 0, i, T, h0, h1, h2, h3 => by omega
  | k + 1, j + 1, i, T, h0, h1, h2, h3 => by
    rw [lpT, lpT]
    by_cases z : q i = true
    · rw [if_pos z, if_pos z]
      obtain ⟨a, b⟩ := hs i h0 h1 z
      by_cases y : (st i).1 = 0
      · rw [if_pos y, if_pos y]
        obtain ⟨c, d⟩ := b y
        exact lpT_e hs k j _ _ (by omega) d (by omega) (by omega)
      · rw [if_neg y, if_neg y]
    · rw [if_neg z, if_neg z]
def lqT (q : Int → Bool) (st : Int → Int × Int × Int) (GT : Int → (Nat → Int) → Nat → Int) (i : Int) : (Nat → Int) → Nat → Int := lpT q st GT (n + 1 - i).toNat i
theorem lqT_y {q : Int → Bool} {st : Int → Int × Int × Int} {GT : Int → (Nat → Int) → Nat → Int} (hs : ∀ i, 0 ≤ i → i ≤ n → q i = true → i < n ∧ ((st i).1 = 0 → i < (st i).2.2 ∧ (st i).2.2 ≤ n)) {i : Int} (h : 0 ≤ i ∧ i ≤ n) (hq : q i = true) (h1 : (st i).1 = 0) (T : Nat → Int) : lqT n q st GT i T = lqT n q st GT (st i).2.2 (GT i T) := by
  obtain ⟨a, b⟩ := hs i h.1 h.2 hq
  obtain ⟨c, d⟩ := b h1
  unfold lqT
  rw [show (n + 1 - i).toNat = (n - i).toNat + 1 by omega, lpT, if_pos hq, if_pos h1]
  exact lpT_e n hs _ _ _ _ (by omega) d (by omega) (by omega)
theorem lqT_n {q : Int → Bool} {st : Int → Int × Int × Int} {GT : Int → (Nat → Int) → Nat → Int} {i : Int} (hq : ¬ q i = true) (T : Nat → Int) : lqT n q st GT i T = T := by
  unfold lqT
  cases (n + 1 - i).toNat with
  | zero => rfl
  | succ k => rw [lpT, if_neg hq]
noncomputable def fgC (k i : Int) (T : Nat → Int) : Nat → Int := if tkF f n i = 1005 then uT T (41 + k).toNat (tkF f n (nxF f n i)) else if tkF f n i = 1007 then uT T 27 (orI (T 27) (pw2 k)) else if tkF f n i = 1012 then uT T 28 (orI (T 28) (pw2 k)) else T
noncomputable def fgT (k : Int) : Int → (Nat → Int) → Nat → Int := lqT n (fgB f n) (fgS f n) (fgC f n k)
noncomputable def mkC (b i : Int) (T : Nat → Int) : Nat → Int := if tkF f n i = 1002 then uT T (14 + b).toNat (tkF f n (nxF f n i)) else if tkF f n i = 1013 then uT T (20 + b).toNat (tkF f n (nxF f n i)) else T
noncomputable def mkT (b : Int) : Int → (Nat → Int) → Nat → Int := lqT n (tqB f n 1002 1013) (fun j => nuP f n 0 9 (nxF f n j)) (mkC f n b)
/-- a loop of them: at i, which goes on (m) -/
def LTW (A : mm_M → Int × Int × Int × Int → (Nat → Int) → Prop) (a : Int) (FT : Int → (Nat → Int) → Nat → Int) (s i m : Int) (MB M : mm_M) : Prop := ¬ a = 0 ∨ ∃ g : (Nat → Int) → Nat → Int, (∀ T, FT s T = if m = 0 then g T else FT i (g T)) ∧ ∀ q T, A MB q T → A M q (g T)
/-- what a loop's steps do -/
def TQ (n : Int) (FT : Int → (Nat → Int) → Nat → Int) (G : Int → Int × Int × Int) (C : Int → (Nat → Int) → Nat → Int) (q : Int → Prop) : Prop := (∀ i, 0 ≤ i → i ≤ n → (q i ∧ ((G i).1 = 0 → ∀ T, FT i T = FT (G i).2.2 (C i T))) ∨ (¬ q i ∧ ∀ T, FT i T = T ∧ C i T = T)) ∧ ¬ q n
theorem ltc_0 (a : Int) (FT : Int → (Nat → Int) → Nat → Int) (s : Int) (M : mm_M) : b01 (LTW A a FT s s 1 M M) = 1 := b01_i (Or.inr ⟨fun T => T, fun T => by rw [if_neg (by decide)], fun _ _ h => h⟩)
theorem ltc_s {FT : Int → (Nat → Int) → Nat → Int} {G : Int → Int × Int × Int} {C : Int → (Nat → Int) → Nat → Int} {q : Int → Prop} (hq : TQ n FT G C q) {s i m m' a1 b1 p1 a2 b2 p2 : Int} {MB M N : mm_M} (h : b01 (LTW A a1 FT s i m MB M) = 1) (hp : b01 (PO n i a1 p1) = 1) (hm : ¬ m = 0) (hr : b01 (RR (G i) a1 b1 a2 b2 p2) = 1) (hm' : m' = b01 (q i)) (h2 : b01 (CT A a2 M N (C i)) = 1) : b01 (LTW A a2 FT s (G i).2.2 m' MB N) = 1 := b01_i (by
  by_cases c : a2 = 0
  · right
    have z1 := rr_z hr c
    obtain ⟨_, i0, i1⟩ := po_0 hp z1
    obtain ⟨g, e1, e2⟩ := (b01_e h).resolve_left (fun w => w z1)
    refine ⟨fun T => C i (g T), fun T => ?_, fun q T x => (b01_e h2).resolve_left (fun w => w c) q _ (e2 q T x)⟩
    rw [e1 T, if_neg hm]
    rcases hq.1 i i0 i1 with w | w
    · have : m' = 1 := by rw [hm']; exact b01_i w.1
      rw [this, if_neg (by decide)]; exact w.2 (rr_v hr c).1 _
    · have : m' = 0 := by rw [hm']; exact b01_n w.1
      rw [this, if_pos rfl, (w.2 (g T)).1]; exact (w.2 (g T)).2.symm
  · exact Or.inl c)
theorem ltc_e {FT : Int → (Nat → Int) → Nat → Int} {G : Int → Int × Int × Int} {C : Int → (Nat → Int) → Nat → Int} {q : Int → Prop} (hq : TQ n FT G C q) {F : Int → Int × Int × Int} {s i c m a0 b0 a b p : Int} {MB M : mm_M} (h : b01 (LTW A a FT s i m MB M) = 1) (hl : b01 (LK F n s i c m a0 b0 a b p) = 1) (hx : ¬ a = 0 ∨ m = 0 ∨ n ≤ c) : b01 (CT A a MB M (FT s)) = 1 := b01_i (by
  by_cases z : a = 0
  · right
    obtain ⟨g, e1, e2⟩ := (b01_e h).resolve_left (fun w => w z)
    intro q' T x
    rw [e1 T]
    by_cases w : m = 0
    · rw [if_pos w]; exact e2 q' T x
    · rw [if_neg w]
      have k : i = n := by
        rcases b01_e hl with r | r | r | r
        · omega
        · omega
        · omega
        · omega
      rw [k]
      rcases hq.1 n (by
        rcases b01_e hl with r | r | r | r
        · omega
        · omega
        · omega
        · omega) (Int.le_refl _) with y | y
      · exact absurd y.1 hq.2
      · rw [(y.2 _).1]; exact e2 q' T x
  · exact Or.inl z)
theorem fg_t (k : Int) : TQ n (fgT f n k) (tfP f n) (fgC f n k) (fgQ f n) := ⟨fun i h0 h1 => by
  by_cases h : fgQ f n i
  · left
    have z : fgB f n i = true := decide_eq_true h
    have e : tfP f n i = fgS f n i := by unfold tfP; rw [if_pos z]
    exact ⟨h, fun y T => by rw [e] at y ⊢; exact lqT_y n (fg_p f n) ⟨h0, h1⟩ z y T⟩
  · right
    have z : ¬ fgB f n i = true := fun w => h (by unfold fgB at w; have y := of_decide_eq_true w; exact y)
    refine ⟨h, fun T => ⟨lqT_n n z T, ?_⟩⟩
    unfold fgQ at h
    unfold fgC
    rw [if_neg (by omega), if_neg (by omega), if_neg (by omega)], (fg_q f n).2⟩
theorem mk_t (b : Int) : TQ n (mkT f n b) (mkP f n) (mkC f n b) (mkQ f n) := ⟨fun i h0 h1 => by
  by_cases h : mkQ f n i
  · left
    have z : tqB f n 1002 1013 i = true := decide_eq_true h
    have e : mkP f n i = nuP f n 0 9 (nxF f n i) := by unfold mkP; rw [if_pos z]
    exact ⟨h, fun y T => by rw [e] at y ⊢; exact lqT_y n (lq_s f n (by decide) (nu_g f n 0 9)) ⟨h0, h1⟩ z y T⟩
  · right
    have z : ¬ tqB f n 1002 1013 i = true := fun w => h (by unfold tqB at w; have y := of_decide_eq_true w; exact y)
    refine ⟨h, fun T => ⟨lqT_n n z T, ?_⟩⟩
    unfold mkQ at h
    unfold mkC
    rw [if_neg (by omega), if_neg (by omega)], (mk_q f n).2⟩
/-! lines -/
noncomputable def kiB (k j : Int) (T : Nat → Int) : Nat → Int := uT (uT (uT T (33 + k).toNat (tkF f n j)) (41 + k).toNat 0) 26 (k + 1)
noncomputable def kiC (k i : Int) (T : Nat → Int) : Nat → Int := fgT f n k (nuP f n 1 99 (exP f n 1004 (nxF f n i)).2.2).2.2 (kiB f n k (exP f n 1004 (nxF f n i)).2.2 T)
noncomputable def buB (b j : Int) (T : Nat → Int) : Nat → Int := uT (uT (uT (uT T (8 + b).toNat (tkF f n j)) (14 + b).toNat 0) (20 + b).toNat 1) 1 (b + 1)
noncomputable def buC (b i : Int) (T : Nat → Int) : Nat → Int := mkT f n b (nuP f n 0 999 (exP f n 1001 (nxF f n i)).2.2).2.2 (buB f n b (exP f n 1001 (nxF f n i)).2.2 T)
noncomputable def lwC (l : Nat) (L : List Int) (T : Nat → Int) : Nat → Int := uT (uT (uT (emL L T) (2 + l) 1) (4 + l) (T 280)) (6 + l) (emL L T 280 - T 280)
noncomputable def waC (i : Int) (T : Nat → Int) : Nat → Int := lwC 0 (sLR f n 6 (exP f n 2058 (nxF f n i)).2.2) T
noncomputable def leC (i : Int) (T : Nat → Int) : Nat → Int := lwC 1 (trL f n (unR f n 6) (uLR f n 6) (exP f n 2058 (nxF f n i)).2.2) T
noncomputable def liC (k b i : Int) (T : Nat → Int) : Nat → Int := if tkF f n i = 1003 then kiC f n k i T else if tkF f n i = 1009 then buC f n b i T else if tkF f n i = 1010 then waC f n i T else if tkF f n i = 1011 then leC f n i T else T
noncomputable def lnC (k b i : Int) (T : Nat → Int) : Nat → Int := uT (liC f n k b i T) 0 (liC f n k b i T 0 + 1)
noncomputable def mnC : Nat → Int → Int → Int → (Nat → Int) → Nat → Int
  | 0, _, _, _, T => T
  | m + 1, i, k, b, T => if tkF f n i = 3001 then T else if (lnP f n k b i).1 = 0 then mnC m (lnP f n k b i).2.2 (inc (tkF f n i) 1003 k) (inc (tkF f n i) 1009 b) (lnC f n k b i T) else T
theorem mnC_e : ∀ (m j : Nat) (i k b : Int) (T : Nat → Int), 0 ≤ i → i ≤ n → (n - i).toNat < m → (n - i).toNat < j → mnC f n m i k b T = mnC f n j i k b T
  | 0, j, i, k, b, T, h0, h1, h2, h3 => by omega
  | m + 1, 0, i, k, b, T, h0, h1, h2, h3 => by omega
  | m + 1, j + 1, i, k, b, T, h0, h1, h2, h3 => by
    rw [mnC, mnC]
    by_cases z : tkF f n i = 3001
    · rw [if_pos z, if_pos z]
    · rw [if_neg z, if_neg z]
      by_cases y : (lnP f n k b i).1 = 0
      · rw [if_pos y, if_pos y]
        obtain ⟨c, d⟩ := ln_g f n k b i h0 y h1
        exact mnC_e m j _ _ _ _ (by omega) d (by omega) (by omega)
      · rw [if_neg y, if_neg y]
noncomputable def mqC (i k b : Int) : (Nat → Int) → Nat → Int := mnC f n (n + 1 - i).toNat i k b
theorem mqC_n {i k b : Int} (h : tkF f n i = 3001) (T : Nat → Int) : mqC f n i k b T = T := by
  unfold mqC
  cases (n + 1 - i).toNat with
  | zero => rfl
  | succ m => rw [mnC, if_pos h]
theorem mqC_y {i k b : Int} (h : 0 ≤ i ∧ i ≤ n) (ht : ¬ tkF f n i = 3001) (h1 : (lnP f n k b i).1 = 0) (T : Nat → Int) : mqC f n i k b T = mqC f n (lnP f n k b i).2.2 (inc (tkF f n i) 1003 k) (inc (tkF f n i) 1009 b) (lnC f n k b i T) := by
  obtain ⟨c, d⟩ := ln_g f n k b i h.1 h1 h.2
  unfold mqC
  rw [show (n + 1 - i).toNat = (n - i).toNat + 1 by omega, mnC, if_neg ht, if_pos h1]
  exact mnC_e f n _ _ _ _ _ _ (by omega) d (by omega) (by omega)
def T0 : Nat → Int := fun j => if j = 0 then 1 else 0
noncomputable def rdC : Nat → Int := mqC f n (hdP f n).2.2 0 0 T0
end RC2
end RC
