/-! RESULTS, EACH ONE WORD: a the fault, b its place, p the place; a state is a b p -/
def PO (n i a p : Int) : Prop := ¬ a = 0 ∨ (p = i ∧ 0 ≤ i ∧ i ≤ n)
def RR (T : Int × Int × Int) (a b a' b' p' : Int) : Prop := (¬ a = 0 ∧ a' = a ∧ b' = b) ∨ (a = 0 ∧ a' = T.1 ∧ ((¬ a' = 0 ∧ b' = T.2.1) ∨ (a' = 0 ∧ p' = T.2.2 ∧ b' = b)))
def LL (F : Int → Int × Int × Int) (n s i c a b a' b' p' : Int) : Prop := (¬ a = 0 ∧ a' = a ∧ b' = b) ∨ (a = 0 ∧ a' = 0 ∧ b' = b ∧ ((F s).1 = (F i).1 ∧ (F s).2.1 = (F i).2.1 ∧ (F s).2.2 = (F i).2.2) ∧ p' = i ∧ 0 ≤ i ∧ i ≤ n ∧ c ≤ i) ∨ (a = 0 ∧ ¬ a' = 0 ∧ a' = (F s).1 ∧ b' = (F s).2.1)
theorem po_0 {n i a p : Int} (h : b01 (PO n i a p) = 1) (h0 : a = 0) : p = i ∧ 0 ≤ i ∧ i ≤ n := (b01_e h).resolve_left (fun z => z h0)
theorem po_f (n i a p : Int) (h : ¬ a = 0) : b01 (PO n i a p) = 1 := b01_i (Or.inl h)
theorem po_eq (n i a p a' p' : Int) (h : b01 (PO n i a p) = 1) (ha : a' = a) (hp : p' = p) : b01 (PO n i a' p') = 1 := by rw [ha, hp]; exact h
theorem po_nx (f : Nat → Int) (n i a p a' p' : Int) (h : b01 (PO n i a p) = 1) (ht : ¬ tkF f n i = 3001) (ha : a' = a) (hp : p' = nxF f n i) : b01 (PO n (nxF f n i) a' p') = 1 := b01_i (by
  by_cases z : a = 0
  · have q := po_0 h z
    have l := nx_b f n q.2.1 (tk_lt f n q.2.1 ht)
    exact Or.inr ⟨hp, by omega, l.2⟩
  · exact Or.inl (by omega))
theorem rr_no (T : Int × Int × Int) (a b a' b' p' : Int) (h : ¬ a = 0) (ha : a' = a) (hb : b' = b) : b01 (RR T a b a' b' p') = 1 := b01_i (Or.inl ⟨h, ha, hb⟩)
theorem rr_y (T : Int × Int × Int) (a b a' b' p' : Int) (h : a = 0) (ha : a' = a) (hb : b' = b) (h1 : T.1 = 0) (h2 : p' = T.2.2) : b01 (RR T a b a' b' p') = 1 := b01_i (Or.inr ⟨h, by omega, Or.inr ⟨by omega, h2, hb⟩⟩)
theorem rr_n (T : Int × Int × Int) (a b a' b' p' : Int) (h : a = 0) (hn : ¬ a' = 0) (ha : a' = T.1) (hb : b' = T.2.1) : b01 (RR T a b a' b' p') = 1 := b01_i (Or.inr ⟨h, ha, Or.inl ⟨hn, hb⟩⟩)
theorem rr_eq (T : Int × Int × Int) (a b a1 b1 p1 a' b' p' : Int) (h : b01 (RR T a b a1 b1 p1) = 1) (ha : a' = a1) (hb : b' = b1) (hp : p' = p1) : b01 (RR T a b a' b' p') = 1 := by rw [ha, hb, hp]; exact h
theorem rr_fr (T : Int × Int × Int) (a b a1 b1 a' b' p' : Int) (h : b01 (RR T a1 b1 a' b' p') = 1) (ha : a1 = a) (hb : b1 = b) : b01 (RR T a b a' b' p') = 1 := by rw [← ha, ← hb]; exact h
theorem rr_k (T : Int × Int × Int) (a b a' b' p' : Int) (h : b01 (RR T a b a' b' p') = 1) (ha : ¬ a = 0) : a' = a ∧ b' = b := by
  rcases b01_e h with q | q
  · exact q.2
  · exact absurd q.1 ha
/-- fault and place alone -/
theorem rr_u (T U : Int × Int × Int) (a b a' b' p' : Int) (h : b01 (RR T a b a' b' p') = 1) (e : a = 0 → U = T) : b01 (RR U a b a' b' p') = 1 := b01_i (by
  rcases b01_e h with q | q
  · exact Or.inl q
  · rw [e q.1]; exact Or.inr q)
theorem rr_sq (A : Int × Int × Int) (G : Int → Int × Int × Int) (a b a1 b1 p1 a' b' p' : Int) (h1 : b01 (RR A a b a1 b1 p1) = 1) (h2 : b01 (RR (G A.2.2) a1 b1 a' b' p') = 1) : b01 (RR (sqP A G) a b a' b' p') = 1 := b01_i (by
  have s := sqP_s A G
  rcases b01_e h1 with q | ⟨q1, q2, q3⟩
  · obtain ⟨r1, r2⟩ := rr_k _ _ _ _ _ _ h2 (by omega)
    exact Or.inl ⟨q.1, by omega, by omega⟩
  · rcases q3 with q3 | q3
    · obtain ⟨r1, r2⟩ := rr_k _ _ _ _ _ _ h2 q3.1
      refine Or.inr ⟨q1, ?_, Or.inl ⟨by omega, ?_⟩⟩
      · rcases s with s | s
        · omega
        · omega
      · rcases s with s | s
        · omega
        · omega
    · rcases s with s | s
      · rcases b01_e h2 with r | ⟨r1, r2, r3⟩
        · omega
        · refine Or.inr ⟨q1, by omega, ?_⟩
          rcases r3 with r3 | r3
          · exact Or.inl ⟨r3.1, by omega⟩
          · exact Or.inr ⟨r3.1, by omega, by omega⟩
      · omega)
theorem po_rh (F : Int → Int × Int × Int) (n i a b p a' b' p' : Int) (hG : PH n F) (hp : b01 (PO n i a p) = 1) (hr : b01 (RR (F i) a b a' b' p') = 1) : b01 (PO n (F i).2.2 a' p') = 1 := b01_i (by
  by_cases z : a' = 0
  · rcases b01_e hr with q | ⟨q1, q2, q3⟩
    · omega
    · have q := po_0 hp q1
      have g := hG i q.2.1 (by omega) q.2.2
      exact Or.inr ⟨by omega, by omega, g.2⟩
  · exact Or.inl z)
theorem po_rr (F : Int → Int × Int × Int) (n i a b p a' b' p' : Int) (hG : PG n F) (hp : b01 (PO n i a p) = 1) (hr : b01 (RR (F i) a b a' b' p') = 1) : b01 (PO n (F i).2.2 a' p') = 1 := po_rh F n i a b p a' b' p' (PG.h n hG) hp hr
/-! loops -/
theorem ll_0 (F : Int → Int × Int × Int) (n i a b p : Int) (hp : b01 (PO n i a p) = 1) : b01 (LL F n i i 0 a b a b p) = 1 := b01_i (by
  by_cases z : a = 0
  · have q := po_0 hp z
    exact Or.inr (Or.inl ⟨z, z, rfl, ⟨rfl, rfl, rfl⟩, q.1, q.2.1, q.2.2, q.2.1⟩)
  · exact Or.inl ⟨z, rfl, rfl⟩)
theorem ll_k (F : Int → Int × Int × Int) (n s i c a b a1 b1 p1 a' b' p' : Int) (h : b01 (LL F n s i c a b a1 b1 p1) = 1) (ha : a' = a1) (hb : b' = b1) (hp : p' = p1) : b01 (LL F n s i c a b a' b' p') = 1 := by rw [ha, hb, hp]; exact h
section PQ3
variable (f : Nat → Int) (n : Int)
theorem ll_s (t u : Int) (G : Int → Int × Int × Int) (s i c a b a1 b1 p1 a2 b2 a3 b3 p3 a' b' p' : Int) (hab : ¬ t = 3001 ∧ ¬ u = 3001) (hG : PG n G) (h : b01 (LL (luP f n t u G) n s i c a b a1 b1 p1) = 1) (h0 : a1 = 0) (ht : tkF f n p1 = t ∨ tkF f n p1 = u) (ha2 : a2 = a1) (hb2 : b2 = b1) (hr : b01 (RR (G (nxF f n i)) a2 b2 a3 b3 p3) = 1) (ha : a' = a3) (hb : b' = b3) (hp : p' = p3) : b01 (LL (luP f n t u G) n s (G (nxF f n i)).2.2 (c + 1) a b a' b' p') = 1 := b01_i (by
  subst ha hb hp
  rcases b01_e h with q | ⟨q1, q2, q3, q4, q5, q6, q7, q8⟩ | q
  · omega
  · subst q5
    have L := luP_s f n hab hG p1 ⟨q6, q7⟩
    have lt := tk_lt f n (i := p1) q6 (by omega)
    have nb := nx_b f n q6 lt
    rcases b01_e hr with r | ⟨r1, r2, r3⟩
    · omega
    · rcases r3 with r3 | r3
      · refine Or.inr (Or.inr ⟨q1, r3.1, ?_, ?_⟩)
        · rcases L with L | L | L
          · omega
          · omega
          · omega
        · rcases L with L | L | L
          · omega
          · omega
          · omega
      · have g := hG (nxF f n p1) (by omega) (by omega) nb.2
        refine Or.inr (Or.inl ⟨q1, r3.1, by omega, ?_, r3.2.1, by omega, g.2, by omega⟩)
        rcases L with L | L | L
        · omega
        · omega
        · omega
  · omega)
theorem ll_e (t u : Int) (G : Int → Int × Int × Int) (s i c a b a' b' p' : Int) (hab : ¬ t = 3001 ∧ ¬ u = 3001) (hG : PG n G) (h : b01 (LL (luP f n t u G) n s i c a b a' b' p') = 1) (hx : ¬ a' = 0 ∨ n ≤ c ∨ (¬ tkF f n p' = t ∧ ¬ tkF f n p' = u)) : b01 (RR (luP f n t u G s) a b a' b' p') = 1 := b01_i (by
  rcases b01_e h with q | ⟨q1, q2, q3, q4, q5, q6, q7, q8⟩ | q
  · exact Or.inl q
  · subst q5
    have L := luP_s f n hab hG p' ⟨q6, q7⟩
    have T := tkF_v f n p' q6
    have e : (luP f n t u G p').1 = 0 ∧ (luP f n t u G p').2.2 = p' := by
      rcases L with L | L | L
      · exfalso; omega
      · exfalso; omega
      · exact ⟨L.2.2.1, L.2.2.2⟩
    exact Or.inr ⟨q1, by omega, Or.inr ⟨q2, by omega, q3⟩⟩
  · exact Or.inr ⟨q.1, q.2.2.1, Or.inl ⟨q.2.1, q.2.2.2⟩⟩)
/-! steps -/
noncomputable def faQ (k i : Int) : Int × Int × Int := faP f n i k
theorem rr_fa (k i a b a' b' p' : Int) (h : a = 0) (ha : a' = flP f n i k) (hb : b' = i) (hk : 1 ≤ a') : b01 (RR (faQ f n k i) a b a' b' p') = 1 := rr_n _ _ _ _ _ _ h (by omega) ha hb
/-- a token is taken: what the function is there -/
theorem rr_tk (T : Int × Int × Int) (i a b p a' b' p' : Int) (hp : b01 (PO n i a p) = 1) (h0 : a = 0) (ha : a' = a) (hb : b' = b) (hx : b01 (PO n (nxF f n i) a' p') = 1) (e : p = i → T.1 = 0 ∧ T.2.2 = nxF f n i) : b01 (RR T a b a' b' p') = 1 :=
  have q := po_0 hp h0
  have r := po_0 hx (by omega)
  have w := e q.1
  rr_y T a b a' b' p' h0 ha hb w.1 (by omega)
/-- what the function is there -/
theorem rr_at (T U : Int × Int × Int) (i a b p a' b' p' : Int) (hp : b01 (PO n i a p) = 1) (h : b01 (RR T a b a' b' p') = 1) (e : p = i → U = T) : b01 (RR U a b a' b' p') = 1 :=
  rr_u T U a b a' b' p' h (fun z => e (po_0 hp z).1)
theorem ex_1 (t i a b p a' b' p' : Int) (hp : b01 (PO n i a p) = 1) (h0 : a = 0) (ht : tkF f n p = t) (ha : a' = a) (hb : b' = b) (hx : b01 (PO n (nxF f n i) a' p') = 1) : b01 (RR (exP f n t i) a b a' b' p') = 1 :=
  rr_tk f n _ i a b p a' b' p' hp h0 ha hb hx (fun z => by subst z; unfold exP; rw [if_pos ht]; exact ⟨rfl, rfl⟩)
theorem ex_2 (t i a b p a' b' p' : Int) (hp : b01 (PO n i a p) = 1) (ht : ¬ tkF f n p = t) (h : b01 (RR (faQ f n 2 i) a b a' b' p') = 1) : b01 (RR (exP f n t i) a b a' b' p') = 1 :=
  rr_at n _ _ i a b p a' b' p' hp h (fun z => by subst z; unfold exP; rw [if_neg ht]; rfl)
theorem nu_1 (lo hi i a b p a' b' p' : Int) (hp : b01 (PO n i a p) = 1) (h0 : a = 0) (ht : lo ≤ tkF f n p ∧ tkF f n p ≤ hi ∧ tkF f n p < 1000) (ha : a' = a) (hb : b' = b) (hx : b01 (PO n (nxF f n i) a' p') = 1) : b01 (RR (nuP f n lo hi i) a b a' b' p') = 1 :=
  rr_tk f n _ i a b p a' b' p' hp h0 ha hb hx (fun z => by subst z; unfold nuP; rw [if_neg (by omega), if_neg (by omega)]; exact ⟨rfl, rfl⟩)
theorem nu_2 (lo hi i a b p a' b' p' : Int) (hp : b01 (PO n i a p) = 1) (ht : 1000 ≤ tkF f n p) (h : b01 (RR (faQ f n 2 i) a b a' b' p') = 1) : b01 (RR (nuP f n lo hi i) a b a' b' p') = 1 :=
  rr_at n _ _ i a b p a' b' p' hp h (fun z => by subst z; unfold nuP; rw [if_pos ht]; rfl)
theorem nu_3 (lo hi i a b p a' b' p' : Int) (hp : b01 (PO n i a p) = 1) (ht : tkF f n p < 1000 ∧ (tkF f n p < lo ∨ hi < tkF f n p)) (h : b01 (RR (faQ f n 3 i) a b a' b' p') = 1) : b01 (RR (nuP f n lo hi i) a b a' b' p') = 1 :=
  rr_at n _ _ i a b p a' b' p' hp h (fun z => by subst z; unfold nuP; rw [if_neg (by omega), if_pos ht.2]; rfl)
/-! atoms -/
theorem at_1 (d : Bool) (sub : Int → Int × Int × Int) (i a b p a' b' p' : Int) (hp : b01 (PO n i a p) = 1) (h0 : a = 0) (ht : tkF f n p < 1008) (ha : a' = a) (hb : b' = b) (hx : b01 (PO n (nxF f n i) a' p') = 1) : b01 (RR (atP f n d sub i) a b a' b' p') = 1 :=
  rr_tk f n _ i a b p a' b' p' hp h0 ha hb hx (fun z => by
    subst z
    rcases atP_s f n d sub p with q | q | q | q
    · exact q.2
    · omega
    · omega
    · omega)
theorem at_2 (sub : Int → Int × Int × Int) (i a b p a1 b1 a2 b2 p2 a' b' p' : Int) (hp : b01 (PO n i a p) = 1) (ht : tkF f n p = 2040) (ha : a1 = a) (hb : b1 = b) (h1 : b01 (RR (sub (nxF f n i)) a1 b1 a2 b2 p2) = 1) (h2 : b01 (RR (exP f n 2041 (sub (nxF f n i)).2.2) a2 b2 a' b' p') = 1) : b01 (RR (atP f n false sub i) a b a' b' p') = 1 :=
  rr_at n _ _ i a b p a' b' p' hp (rr_sq _ _ a b a2 b2 p2 a' b' p' (rr_fr _ a b a1 b1 a2 b2 p2 h1 ha hb) h2) (fun z => by
    subst z
    rcases atP_s f n false sub p with q | q | q | q
    · omega
    · exact absurd q.2.1 (by decide)
    · exact q.2.2
    · omega)
theorem at_3 (sub : Int → Int × Int × Int) (i a b p a' b' p' : Int) (hp : b01 (PO n i a p) = 1) (h0 : a = 0) (ht : tkF f n p = 2040) (ha : a' = 4) (hb : b' = i) : b01 (RR (atP f n true sub i) a b a' b' p') = 1 :=
  have q := po_0 hp h0
  rr_n _ a b a' b' p' h0 (by omega) (by
    obtain rfl := q.1
    rcases atP_s f n true sub p with q | q | q | q
    · omega
    · rw [q.2.2.1]; exact ha
    · exact absurd q.2.1 (by decide)
    · omega) (by
    obtain rfl := q.1
    rcases atP_s f n true sub p with q | q | q | q
    · omega
    · rw [q.2.2.2]; exact hb
    · exact absurd q.2.1 (by decide)
    · omega)
theorem at_4 (d : Bool) (sub : Int → Int × Int × Int) (i a b p a' b' p' : Int) (hp : b01 (PO n i a p) = 1) (ht : 1008 ≤ tkF f n p ∧ ¬ tkF f n p = 2040) (h : b01 (RR (faQ f n 2 i) a b a' b' p') = 1) : b01 (RR (atP f n d sub i) a b a' b' p') = 1 :=
  rr_at n _ _ i a b p a' b' p' hp h (fun z => by subst z; unfold atP; rw [if_neg (by omega), if_neg ht.2]; rfl)
/-! units -/
theorem un_1 (r r2 : Nat) (hr : r2 = r + 1) (i a b p a1 b1 a2 b2 p2 a' b' p' : Int) (hp : b01 (PO n i a p) = 1) (ht : tkF f n p = 1016) (ha : a1 = a) (hb : b1 = b) (h1 : b01 (RR (unR f n r (nxF f n i)) a1 b1 a2 b2 p2) = 1) (hea : a' = a2) (heb : b' = b2) (hep : p' = p2) : b01 (RR (unR f n r2 i) a b a' b' p') = 1 :=
  rr_eq _ a b a2 b2 p2 a' b' p' (rr_at n _ _ i a b p a2 b2 p2 hp (rr_fr _ a b a1 b1 a2 b2 p2 h1 ha hb) (fun z => by
    subst z hr
    show unP f n false (suR f n (r + 1)) (unR f n r) (trP f n (unR f n r)) p = _
    unfold unP
    rw [if_pos ht, if_neg (by decide)])) hea heb hep
theorem un_2 (r r2 : Nat) (hr : r2 = r + 1) (i a b p a1 b1 a2 b2 p2 a' b' p' : Int) (hp : b01 (PO n i a p) = 1) (ht : tkF f n p = 2091) (ha : a1 = a) (hb : b1 = b) (h1 : b01 (RR (trP f n (unR f n r) (nxF f n i)) a1 b1 a2 b2 p2) = 1) (h2 : b01 (RR (exP f n 2093 (trP f n (unR f n r) (nxF f n i)).2.2) a2 b2 a' b' p') = 1) : b01 (RR (unR f n r2 i) a b a' b' p') = 1 :=
  rr_at n _ _ i a b p a' b' p' hp (rr_sq _ _ a b a2 b2 p2 a' b' p' (rr_fr _ a b a1 b1 a2 b2 p2 h1 ha hb) h2) (fun z => by
    subst z hr
    show unP f n false (suR f n (r + 1)) (unR f n r) (trP f n (unR f n r)) p = _
    unfold unP
    rw [if_neg (by omega), if_pos ht, if_neg (by decide)])
theorem un_3 (i a b p a' b' p' : Int) (hp : b01 (PO n i a p) = 1) (h0 : a = 0) (ht : tkF f n p = 1016 ∨ tkF f n p = 2091) (ha : a' = 4) (hb : b' = i) : b01 (RR (unR f n 0 i) a b a' b' p') = 1 :=
  have q := po_0 hp h0
  have e : (unR f n 0 i).1 = 4 ∧ (unR f n 0 i).2.1 = i := by
    obtain rfl := q.1
    rcases un_s0 f n p with q | q | q
    · exact q.2
    · omega
    · omega
  rr_n _ a b a' b' p' h0 (by omega) (by rw [e.1]; exact ha) (by rw [e.2]; exact hb)
theorem un_c (r : Nat) (i : Int) (h1 : ¬ tkF f n i = 1016) (h2 : ¬ tkF f n i = 2091) : unR f n r i = sqP (suR f n r i) (cmP f n (suR f n r)) := by
  cases r with
  | zero =>
    show unP f n true (suR f n 0) (fun i => (0, 0, i)) (fun i => (0, 0, i)) i = _
    rcases unP_s f n true (suR f n 0) (fun i => (0, 0, i)) (fun i => (0, 0, i)) i with q | q | q | q | q
    · omega
    · omega
    · omega
    · omega
    · exact q.2.2
  | succ r =>
    show unP f n false (suR f n (r + 1)) (unR f n r) (trP f n (unR f n r)) i = _
    rcases unP_s f n false (suR f n (r + 1)) (unR f n r) (trP f n (unR f n r)) i with q | q | q | q | q
    · omega
    · omega
    · omega
    · omega
    · exact q.2.2
/-- two sums and a sign between -/
theorem un_4 (r : Nat) (i a b p a1 b1 p1 a2 b2 a3 b3 p3 a' b' p' : Int) (hp : b01 (PO n i a p) = 1) (ht : ¬ tkF f n p = 1016 ∧ ¬ tkF f n p = 2091) (h1 : b01 (RR (suR f n r i) a b a1 b1 p1) = 1) (hq : b01 (PO n (suR f n r i).2.2 a1 p1) = 1) (hs : tkF f n p1 = 2061 ∨ tkF f n p1 = 2060 ∨ tkF f n p1 = 2062) (ha : a2 = a1) (hb : b2 = b1) (h2 : b01 (RR (suR f n r (nxF f n (suR f n r i).2.2)) a2 b2 a3 b3 p3) = 1) (hea : a' = a3) (heb : b' = b3) (hep : p' = p3) : b01 (RR (unR f n r i) a b a' b' p') = 1 :=
  rr_at n _ _ i a b p a' b' p' hp (rr_sq (suR f n r i) (cmP f n (suR f n r)) a b a1 b1 p1 a' b' p' h1 (rr_at n _ _ _ a1 b1 p1 a' b' p' hq (rr_eq _ a1 b1 a3 b3 p3 a' b' p' (rr_fr _ a1 b1 a2 b2 a3 b3 p3 h2 ha hb) hea heb hep) (fun z => by rw [z] at hs; unfold cmP; rw [if_pos hs]))) (fun z => by subst z; exact un_c f n r p ht.1 ht.2)
theorem un_5 (r : Nat) (i a b p a1 b1 p1 a' b' p' : Int) (hp : b01 (PO n i a p) = 1) (ht : ¬ tkF f n p = 1016 ∧ ¬ tkF f n p = 2091) (h1 : b01 (RR (suR f n r i) a b a1 b1 p1) = 1) (hq : b01 (PO n (suR f n r i).2.2 a1 p1) = 1) (hs : a1 = 0 → ¬ tkF f n p1 = 2061 ∧ ¬ tkF f n p1 = 2060 ∧ ¬ tkF f n p1 = 2062) (h2 : b01 (RR (faQ f n 2 (suR f n r i).2.2) a1 b1 a' b' p') = 1) : b01 (RR (unR f n r i) a b a' b' p') = 1 :=
  rr_at n _ _ i a b p a' b' p' hp (rr_sq (suR f n r i) (cmP f n (suR f n r)) a b a1 b1 p1 a' b' p' h1 (rr_u _ _ a1 b1 a' b' p' h2 (fun z0 => by have z := (po_0 hq z0).1; have hs := hs z0; rw [z] at hs; unfold cmP; rw [if_neg (by omega)]; rfl))) (fun z => by subst z; exact un_c f n r p ht.1 ht.2)
end PQ3
/-! loops of flags: m whether it goes on -/
def LK (F : Int → Int × Int × Int) (n s i c m a b a' b' p' : Int) : Prop := (¬ a = 0 ∧ a' = a ∧ b' = b) ∨ (a = 0 ∧ a' = 0 ∧ b' = b ∧ ((F s).1 = (F i).1 ∧ (F s).2.1 = (F i).2.1 ∧ (F s).2.2 = (F i).2.2) ∧ p' = i ∧ 0 ≤ i ∧ i ≤ n ∧ c ≤ i ∧ m = 1) ∨ (a = 0 ∧ a' = 0 ∧ b' = b ∧ (F s).1 = 0 ∧ (F s).2.2 = i ∧ p' = i ∧ 0 ≤ i ∧ i ≤ n ∧ m = 0) ∨ (a = 0 ∧ ¬ a' = 0 ∧ a' = (F s).1 ∧ b' = (F s).2.1)
def LQ (n : Int) (F G : Int → Int × Int × Int) (q : Int → Prop) : Prop := (∀ i, 0 ≤ i → i ≤ n → (q i ∧ ¬ (G i).1 = 0 ∧ (F i).1 = (G i).1 ∧ (F i).2.1 = (G i).2.1) ∨ (q i ∧ (G i).1 = 0 ∧ (F i).1 = (F (G i).2.2).1 ∧ (F i).2.1 = (F (G i).2.2).2.1 ∧ (F i).2.2 = (F (G i).2.2).2.2 ∧ i < (G i).2.2 ∧ (G i).2.2 ≤ n) ∨ (¬ q i ∧ (F i).1 = 0 ∧ (F i).2.2 = i ∧ (G i).1 = 0 ∧ (G i).2.2 = i)) ∧ ¬ q n
theorem b01_n {P : Prop} (h : ¬ P) : b01 P = 0 := by simp [b01, h]
theorem lk_0 (F : Int → Int × Int × Int) (n i a b p : Int) (hp : b01 (PO n i a p) = 1) : b01 (LK F n i i 0 1 a b a b p) = 1 := b01_i (by
  by_cases z : a = 0
  · have q := po_0 hp z
    exact Or.inr (Or.inl ⟨z, z, rfl, ⟨rfl, rfl, rfl⟩, q.1, q.2.1, q.2.2, q.2.1, rfl⟩)
  · exact Or.inl ⟨z, rfl, rfl⟩)
theorem lk_k (F : Int → Int × Int × Int) (n s i c m a b a1 b1 p1 a' b' p' : Int) (h : b01 (LK F n s i c m a b a1 b1 p1) = 1) (ha : a' = a1) (hb : b' = b1) (hp : p' = p1) : b01 (LK F n s i c m a b a' b' p') = 1 := by rw [ha, hb, hp]; exact h
theorem lk_s (n : Int) (F G : Int → Int × Int × Int) (q : Int → Prop) (hq : LQ n F G q) (s i c m a b a1 b1 p1 a2 b2 p2 a' b' p' m' : Int) (h : b01 (LK F n s i c m a b a1 b1 p1) = 1) (h0 : a1 = 0) (hm : ¬ m = 0) (hr : b01 (RR (G i) a1 b1 a2 b2 p2) = 1) (hm' : m' = b01 (q i)) (ha : a' = a2) (hb : b' = b2) (hp : p' = p2) : b01 (LK F n s (G i).2.2 (c + 1) m' a b a' b' p') = 1 := b01_i (by
  subst ha hb hp
  rcases b01_e h with r | ⟨q1, q2, q3, q4, q5, q6, q7, q8, q9⟩ | r | r
  · omega
  · rcases b01_e hr with r | ⟨r1, r2, r3⟩
    · omega
    · rcases hq.1 i q6 q7 with w | w | w
      · exact Or.inr (Or.inr (Or.inr ⟨q1, by omega, by omega, by omega⟩))
      · have e : m' = 1 := by rw [hm']; exact b01_i w.1
        exact Or.inr (Or.inl ⟨q1, by omega, by omega, by omega, by omega, by omega, by omega, by omega, e⟩)
      · have e : m' = 0 := by rw [hm']; exact b01_n w.1
        exact Or.inr (Or.inr (Or.inl ⟨q1, by omega, by omega, by omega, by omega, by omega, by omega, by omega, e⟩))
  · omega
  · omega)
theorem lk_e (n : Int) (F G : Int → Int × Int × Int) (q : Int → Prop) (hq : LQ n F G q) (s i c m a b a' b' p' : Int) (h : b01 (LK F n s i c m a b a' b' p') = 1) (hx : ¬ a' = 0 ∨ m = 0 ∨ n ≤ c) : b01 (RR (F s) a b a' b' p') = 1 := b01_i (by
  rcases b01_e h with r | ⟨q1, q2, q3, q4, q5, q6, q7, q8, q9⟩ | r | r
  · exact Or.inl r
  · have e : i = n := by omega
    subst e
    rcases hq.1 i q6 q7 with w | w | w
    · exact absurd w.1 hq.2
    · exact absurd w.1 hq.2
    · exact Or.inr ⟨q1, by omega, Or.inr ⟨q2, by omega, q3⟩⟩
  · exact Or.inr ⟨r.1, by omega, Or.inr ⟨r.2.1, by omega, r.2.2.1⟩⟩
  · exact Or.inr ⟨r.1, r.2.2.1, Or.inl ⟨r.2.1, r.2.2.2⟩⟩)
section PQ4
variable (f : Nat → Int) (n : Int)
def fgQ (i : Int) : Prop := tkF f n i = 1005 ∨ tkF f n i = 1007 ∨ tkF f n i = 1012
def mkQ (i : Int) : Prop := tkF f n i = 1002 ∨ tkF f n i = 1013
theorem tk_n : tkF f n n = 3001 := by have := tkF_lt f n n; omega
theorem fg_q : LQ n (fgP f n) (tfP f n) (fgQ f n) := ⟨fun i h0 h1 => by
  rcases fg_o f n i with q | q | q | q | q
  · omega
  · omega
  · exact Or.inl q
  · exact Or.inr (Or.inl q)
  · exact Or.inr (Or.inr ⟨fun z => by unfold fgQ at z; omega, q.2.2.2⟩), fun z => by unfold fgQ at z; have := tk_n f n; omega⟩
theorem mk_q : LQ n (luP f n 1002 1013 (nuP f n 0 9)) (mkP f n) (mkQ f n) := ⟨fun i h0 h1 => by
  rcases ma_o f n i with q | q | q | q | q
  · omega
  · omega
  · exact Or.inl q
  · exact Or.inr (Or.inl q)
  · exact Or.inr (Or.inr ⟨fun z => by unfold mkQ at z; omega, q.2.2⟩), fun z => by unfold mkQ at z; have := tk_n f n; omega⟩
theorem tf_r1 (i a p : Int) (hp : b01 (PO n i a p) = 1) (h0 : a = 0) (ht : tkF f n p = 1005 ∨ tkF f n p = 1007 ∨ tkF f n p = 1012) : b01 (fgQ f n i) = 1 := b01_i (by have q := po_0 hp h0; obtain rfl := q.1; exact ht)
theorem tf_r0 (i a p : Int) (hp : b01 (PO n i a p) = 1) (h0 : a = 0) (ht : ¬ tkF f n p = 1005 ∧ ¬ tkF f n p = 1007 ∧ ¬ tkF f n p = 1012) : b01 (fgQ f n i) = 0 := b01_n (by have q := po_0 hp h0; obtain rfl := q.1; intro z; unfold fgQ at z; omega)
theorem mk_r1 (i a p : Int) (hp : b01 (PO n i a p) = 1) (h0 : a = 0) (ht : tkF f n p = 1002 ∨ tkF f n p = 1013) : b01 (mkQ f n i) = 1 := b01_i (by have q := po_0 hp h0; obtain rfl := q.1; exact ht)
theorem mk_r0 (i a p : Int) (hp : b01 (PO n i a p) = 1) (h0 : a = 0) (ht : ¬ tkF f n p = 1002 ∧ ¬ tkF f n p = 1013) : b01 (mkQ f n i) = 0 := b01_n (by have q := po_0 hp h0; obtain rfl := q.1; intro z; unfold mkQ at z; omega)
theorem tf_0 (i a b p a' b' p' : Int) (hp : b01 (PO n i a p) = 1) (h0 : a = 0) (ht : ¬ tkF f n p = 1005 ∧ ¬ tkF f n p = 1007 ∧ ¬ tkF f n p = 1012) (ha : a' = a) (hb : b' = b) (hx : p' = p) : b01 (RR (tfP f n i) a b a' b' p') = 1 := by
  have q := po_0 hp h0
  obtain rfl := q.1
  have o := tf_o f n p
  exact rr_y _ a b a' b' p' h0 ha hb (by omega) (by omega)
theorem tf_1 (i a b p a1 b1 a2 b2 p2 a' b' p' : Int) (hp : b01 (PO n i a p) = 1) (ht : tkF f n p = 1005) (ha1 : a1 = a) (hb1 : b1 = b) (h : b01 (RR (nuP f n 0 9 (nxF f n i)) a1 b1 a2 b2 p2) = 1) (ha : a' = a2) (hb : b' = b2) (hx : p' = p2) : b01 (RR (tfP f n i) a b a' b' p') = 1 :=
  rr_eq _ a b a2 b2 p2 a' b' p' (rr_at n _ _ i a b p a2 b2 p2 hp (rr_fr _ a b a1 b1 a2 b2 p2 h ha1 hb1) (fun z => by
    subst z
    unfold tfP fgB fgS
    rw [if_pos (decide_eq_true (Or.inl ht)), if_pos ht])) ha hb hx
theorem tf_2 (i a b p a1 b1 p1 a' b' p' : Int) (hp : b01 (PO n i a p) = 1) (h0 : a = 0) (ht : tkF f n p = 1007 ∨ tkF f n p = 1012) (ha1 : a1 = a) (hb1 : b1 = b) (hx1 : b01 (PO n (nxF f n i) a1 p1) = 1) (ha : a' = a1) (hb : b' = b1) (hx : p' = p1) : b01 (RR (tfP f n i) a b a' b' p') = 1 :=
  rr_eq _ a b a1 b1 p1 a' b' p' (rr_tk f n _ i a b p a1 b1 p1 hp h0 ha1 hb1 hx1 (fun z => by subst z; have o := tf_o f n p; omega)) ha hb hx
theorem mk_0 (i a b p a' b' p' : Int) (hp : b01 (PO n i a p) = 1) (h0 : a = 0) (ht : ¬ tkF f n p = 1002 ∧ ¬ tkF f n p = 1013) (ha : a' = a) (hb : b' = b) (hx : p' = p) : b01 (RR (mkP f n i) a b a' b' p') = 1 := by
  have q := po_0 hp h0
  obtain rfl := q.1
  have o := mk_o f n p
  exact rr_y _ a b a' b' p' h0 ha hb (by omega) (by omega)
theorem mk_1 (i a b p a1 b1 a2 b2 p2 a' b' p' : Int) (hp : b01 (PO n i a p) = 1) (ht : tkF f n p = 1002 ∨ tkF f n p = 1013) (ha1 : a1 = a) (hb1 : b1 = b) (h : b01 (RR (nuP f n 0 9 (nxF f n i)) a1 b1 a2 b2 p2) = 1) (ha : a' = a2) (hb : b' = b2) (hx : p' = p2) : b01 (RR (mkP f n i) a b a' b' p') = 1 :=
  rr_eq _ a b a2 b2 p2 a' b' p' (rr_at n _ _ i a b p a2 b2 p2 hp (rr_fr _ a b a1 b1 a2 b2 p2 h ha1 hb1) (fun z => by
    subst z
    unfold mkP tqB
    rw [if_pos (decide_eq_true ht)])) ha hb hx
theorem tf_h : PH n (tfP f n) := fun i h0 h1 h2 => by
  have o := tf_o f n i
  rcases o with q | q | q
  · have m := nx_b f n h0 (tk_lt f n h0 (by omega))
    have := nu_g f n 0 9 _ (by omega) (by omega) m.2
    omega
  · have m := nx_b f n h0 (tk_lt f n h0 (by omega))
    omega
  · omega
theorem mk_h : PH n (mkP f n) := fun i h0 h1 h2 => by
  have o := mk_o f n i
  rcases o with q | q
  · have m := nx_b f n h0 (tk_lt f n h0 (by omega))
    have := nu_g f n 0 9 _ (by omega) (by omega) m.2
    omega
  · omega
/-! lines -/
theorem ki_1 (k i a b a' b' p' : Int) (hk : 8 ≤ k) (h : b01 (RR (faQ f n 4 i) a b a' b' p') = 1) : b01 (RR (kiP f n k i) a b a' b' p') = 1 :=
  rr_u _ _ a b a' b' p' h (fun _ => by unfold kiP; rw [if_pos hk]; rfl)
theorem bu_1 (k i a b a' b' p' : Int) (hk : 6 ≤ k) (h : b01 (RR (faQ f n 4 i) a b a' b' p') = 1) : b01 (RR (buP f n k i) a b a' b' p') = 1 :=
  rr_u _ _ a b a' b' p' h (fun _ => by unfold buP; rw [if_pos hk]; rfl)
theorem ki_2 (k i a b a1 b1 a2 b2 p2 a3 b3 a4 b4 p4 a5 b5 a' b' p' : Int) (hk : k < 8) (ha1 : a1 = a) (hb1 : b1 = b) (h2 : b01 (RR (exP f n 1004 (nxF f n i)) a1 b1 a2 b2 p2) = 1) (ha3 : a3 = a2) (hb3 : b3 = b2) (h4 : b01 (RR (nuP f n 1 99 (exP f n 1004 (nxF f n i)).2.2) a3 b3 a4 b4 p4) = 1) (ha5 : a5 = a4) (hb5 : b5 = b4) (h6 : b01 (RR (fgP f n (nuP f n 1 99 (exP f n 1004 (nxF f n i)).2.2).2.2) a5 b5 a' b' p') = 1) : b01 (RR (kiP f n k i) a b a' b' p') = 1 :=
  rr_u _ _ a b a' b' p' (rr_sq _ (kiT f n) a b a2 b2 p2 a' b' p' (rr_fr _ a b a1 b1 a2 b2 p2 h2 ha1 hb1) (rr_sq _ (fgP f n) a2 b2 a4 b4 p4 a' b' p' (rr_fr _ a2 b2 a3 b3 a4 b4 p4 h4 ha3 hb3) (rr_fr _ a4 b4 a5 b5 a' b' p' h6 ha5 hb5))) (fun _ => by unfold kiP; rw [if_neg (by omega)])
theorem bu_2 (k i a b a1 b1 a2 b2 p2 a3 b3 a4 b4 p4 a5 b5 a' b' p' : Int) (hk : k < 6) (ha1 : a1 = a) (hb1 : b1 = b) (h2 : b01 (RR (exP f n 1001 (nxF f n i)) a1 b1 a2 b2 p2) = 1) (ha3 : a3 = a2) (hb3 : b3 = b2) (h4 : b01 (RR (nuP f n 0 999 (exP f n 1001 (nxF f n i)).2.2) a3 b3 a4 b4 p4) = 1) (ha5 : a5 = a4) (hb5 : b5 = b4) (h6 : b01 (RR (luP f n 1002 1013 (nuP f n 0 9) (nuP f n 0 999 (exP f n 1001 (nxF f n i)).2.2).2.2) a5 b5 a' b' p') = 1) : b01 (RR (buP f n k i) a b a' b' p') = 1 :=
  rr_u _ _ a b a' b' p' (rr_sq _ (buT f n) a b a2 b2 p2 a' b' p' (rr_fr _ a b a1 b1 a2 b2 p2 h2 ha1 hb1) (rr_sq _ (luP f n 1002 1013 (nuP f n 0 9)) a2 b2 a4 b4 p4 a' b' p' (rr_fr _ a2 b2 a3 b3 a4 b4 p4 h4 ha3 hb3) (rr_fr _ a4 b4 a5 b5 a' b' p' h6 ha5 hb5))) (fun _ => by unfold buP; rw [if_neg (by omega)])
theorem wa_1 (i a b a1 b1 a2 b2 p2 a3 b3 a4 b4 p4 a' b' p' : Int) (ha1 : a1 = a) (hb1 : b1 = b) (h2 : b01 (RR (exP f n 2058 (nxF f n i)) a1 b1 a2 b2 p2) = 1) (ha3 : a3 = a2) (hb3 : b3 = b2) (h4 : b01 (RR (suR f n 6 (exP f n 2058 (nxF f n i)).2.2) a3 b3 a4 b4 p4) = 1) (ha : a' = a4) (hb : b' = b4) (hp : p' = p4) : b01 (RR (waP f n i) a b a' b' p') = 1 :=
  rr_eq _ a b a4 b4 p4 a' b' p' (rr_sq _ (suR f n 6) a b a2 b2 p2 a4 b4 p4 (rr_fr _ a b a1 b1 a2 b2 p2 h2 ha1 hb1) (rr_fr _ a2 b2 a3 b3 a4 b4 p4 h4 ha3 hb3)) ha hb hp
theorem le_1 (i a b a1 b1 a2 b2 p2 a3 b3 a4 b4 p4 a' b' p' : Int) (ha1 : a1 = a) (hb1 : b1 = b) (h2 : b01 (RR (exP f n 2058 (nxF f n i)) a1 b1 a2 b2 p2) = 1) (ha3 : a3 = a2) (hb3 : b3 = b2) (h4 : b01 (RR (trP f n (unR f n 6) (exP f n 2058 (nxF f n i)).2.2) a3 b3 a4 b4 p4) = 1) (ha : a' = a4) (hb : b' = b4) (hp : p' = p4) : b01 (RR (leP f n i) a b a' b' p') = 1 :=
  rr_eq _ a b a4 b4 p4 a' b' p' (rr_sq _ (trP f n (unR f n 6)) a b a2 b2 p2 a4 b4 p4 (rr_fr _ a b a1 b1 a2 b2 p2 h2 ha1 hb1) (rr_fr _ a2 b2 a3 b3 a4 b4 p4 h4 ha3 hb3)) ha hb hp
theorem li_1 (k m i a b p a' b' p' : Int) (hp : b01 (PO n i a p) = 1) (ht : tkF f n p = 1003) (h : b01 (RR (kiP f n k i) a b a' b' p') = 1) : b01 (RR (liP f n k m i) a b a' b' p') = 1 :=
  rr_at n _ _ i a b p a' b' p' hp h (fun z => by subst z; unfold liP; rw [if_pos ht])
theorem li_2 (k m i a b p a' b' p' : Int) (hp : b01 (PO n i a p) = 1) (ht : tkF f n p = 1009) (h : b01 (RR (buP f n m i) a b a' b' p') = 1) : b01 (RR (liP f n k m i) a b a' b' p') = 1 :=
  rr_at n _ _ i a b p a' b' p' hp h (fun z => by subst z; unfold liP; rw [if_neg (by omega), if_pos ht])
theorem li_3 (k m i a b p a' b' p' : Int) (hp : b01 (PO n i a p) = 1) (ht : tkF f n p = 1010) (h : b01 (RR (waP f n i) a b a' b' p') = 1) : b01 (RR (liP f n k m i) a b a' b' p') = 1 :=
  rr_at n _ _ i a b p a' b' p' hp h (fun z => by subst z; unfold liP; rw [if_neg (by omega), if_neg (by omega), if_pos ht])
theorem li_4 (k m i a b p a' b' p' : Int) (hp : b01 (PO n i a p) = 1) (ht : tkF f n p = 1011) (h : b01 (RR (leP f n i) a b a' b' p') = 1) : b01 (RR (liP f n k m i) a b a' b' p') = 1 :=
  rr_at n _ _ i a b p a' b' p' hp h (fun z => by subst z; unfold liP; rw [if_neg (by omega), if_neg (by omega), if_neg (by omega), if_pos ht])
theorem li_5 (k m i a b p a' b' p' : Int) (hp : b01 (PO n i a p) = 1) (ht : ¬ tkF f n p = 1003 ∧ ¬ tkF f n p = 1009 ∧ ¬ tkF f n p = 1010 ∧ ¬ tkF f n p = 1011) (h : b01 (RR (faQ f n 2 i) a b a' b' p') = 1) : b01 (RR (liP f n k m i) a b a' b' p') = 1 :=
  rr_at n _ _ i a b p a' b' p' hp h (fun z => by subst z; unfold liP; rw [if_neg (by omega), if_neg (by omega), if_neg (by omega), if_neg (by omega)]; rfl)
/-- counts: on success they are these -/
def CK (a' k m l k0 m0 l0 : Int) : Prop := ¬ a' = 0 ∨ (k = k0 ∧ m = m0 ∧ l = l0)
theorem ck_i (a' k m l k0 m0 l0 : Int) (h : ¬ a' = 0 ∨ (k = k0 ∧ m = m0 ∧ l = l0)) : b01 (CK a' k m l k0 m0 l0) = 1 := b01_i h
theorem ck_0 {a' k m l k0 m0 l0 : Int} (h : b01 (CK a' k m l k0 m0 l0) = 1) (h0 : a' = 0) : k = k0 ∧ m = m0 ∧ l = l0 := (b01_e h).resolve_left (fun z => z h0)
theorem ck_li (i a p a' k m l k0 m0 l0 k1 m1 : Int) (hp : b01 (PO n i a p) = 1) (h0 : a = 0) (h : b01 (CK a' k m l k1 m1 l0) = 1) (hk : k1 = inc (tkF f n p) 1003 k0) (hm : m1 = inc (tkF f n p) 1009 m0) : b01 (CK a' k m l (inc (tkF f n i) 1003 k0) (inc (tkF f n i) 1009 m0) l0) = 1 := by
  have q := po_0 hp h0
  obtain rfl := q.1
  rw [← hk, ← hm]; exact h
/-- all lines -/
def LM (s k0 m0 l0 i c k m l a b a' b' p' : Int) : Prop := (¬ a = 0 ∧ a' = a ∧ b' = b) ∨ (a = 0 ∧ a' = 0 ∧ b' = b ∧ mnP f n s k0 m0 l0 = mnP f n i k m l ∧ p' = i ∧ 0 ≤ i ∧ i ≤ n ∧ c ≤ i) ∨ (a = 0 ∧ ¬ a' = 0 ∧ a' = (mnP f n s k0 m0 l0).1 ∧ b' = (mnP f n s k0 m0 l0).2.1)
theorem lm_0 (i k m l a b p : Int) (hp : b01 (PO n i a p) = 1) : b01 (LM f n i k m l i 0 k m l a b a b p) = 1 := b01_i (by
  by_cases z : a = 0
  · have q := po_0 hp z
    exact Or.inr (Or.inl ⟨z, z, rfl, rfl, q.1, q.2.1, q.2.2, q.2.1⟩)
  · exact Or.inl ⟨z, rfl, rfl⟩)
theorem lm_s (s k0 m0 l0 i c k m l a b a1 b1 p1 a2 b2 p2 a' b' p' k' m' l' l2 : Int) (h : b01 (LM f n s k0 m0 l0 i c k m l a b a1 b1 p1) = 1) (h0 : a1 = 0) (ht : ¬ tkF f n p1 = 3001) (h2 : b01 (RR (liP f n k m i) a1 b1 a2 b2 p2) = 1) (hc : b01 (CK a2 k' m' l2 (inc (tkF f n i) 1003 k) (inc (tkF f n i) 1009 m) l) = 1) (h3 : b01 (RR (exP f n 2059 (liP f n k m i).2.2) a2 b2 a' b' p') = 1) (hl : l' = l2 + 1) : b01 (LM f n s k0 m0 l0 (exP f n 2059 (liP f n k m i).2.2).2.2 (c + 1) k' m' l' a b a' b' p') = 1 := b01_i (by
  rcases b01_e h with q | ⟨q1, q2, q3, q4, q5, q6, q7, q8⟩ | q
  · omega
  · subst q5
    have R := b01_e (rr_sq _ (exP f n 2059) a1 b1 a2 b2 p2 a' b' p' h2 h3)
    have S := ln_s f n k m p1
    have E : lnP f n k m p1 = sqP (liP f n k m p1) (exP f n 2059) := rfl
    rw [← E] at R
    have G := ln_g f n k m p1 q6
    rcases R with r | ⟨r1, r2, r3⟩
    · omega
    · rcases mnP_s f n p1 k m l ⟨q6, q7⟩ with w | w | w
      · exact absurd w.1 ht
      · rcases r3 with r3 | r3
        · omega
        · have g := G w.2.1 q7
          have a20 : a2 = 0 := by
            by_cases z : a2 = 0
            · exact z
            · have := rr_k _ _ _ _ _ _ h3 z; omega
          have ck := ck_0 hc a20
          have e22 : (lnP f n k m p1).2.2 = (exP f n 2059 (liP f n k m p1).2.2).2.2 := by
            rcases S with S | S
            · exact S.2.2.2
            · omega
          have e : mnP f n s k0 m0 l0 = mnP f n (exP f n 2059 (liP f n k m p1).2.2).2.2 k' m' l' := by
            rw [q4, w.2.2, e22, ck.1, ck.2.1, hl, ck.2.2]
          exact Or.inr (Or.inl ⟨q1, r3.1, by omega, e, by omega, by omega, by omega, by omega⟩)
      · rcases r3 with r3 | r3
        · refine Or.inr (Or.inr ⟨q1, r3.1, ?_, ?_⟩)
          · rw [q4, w.2.2]; omega
          · rw [q4, w.2.2]; omega
        · omega
  · omega)
theorem lm_e (s k0 m0 l0 i c k m l a b a' b' p' : Int) (h : b01 (LM f n s k0 m0 l0 i c k m l a b a' b' p') = 1) (h0 : a = 0) (hx : ¬ a' = 0 ∨ n ≤ c ∨ tkF f n p' = 3001) : a' = (mnP f n s k0 m0 l0).1 ∧ (¬ a' = 0 ∧ b' = (mnP f n s k0 m0 l0).2.1 ∨ a' = 0 ∧ b' = b ∧ l = (mnP f n s k0 m0 l0).2.2) := by
  rcases b01_e h with q | ⟨q1, q2, q3, q4, q5, q6, q7, q8⟩ | q
  · omega
  · subst q5
    have T := tkF_v f n p' q6
    rcases mnP_s f n p' k m l ⟨q6, q7⟩ with w | w | w
    · rw [q4, w.2]; exact ⟨q2, Or.inr ⟨q2, q3, rfl⟩⟩
    · exfalso; have := w.1; omega
    · exfalso; have := w.1; omega
  · exact ⟨q.2.2.1, Or.inl ⟨q.2.1, q.2.2.2⟩⟩
theorem rd_e (i c k m l a b a1 b1 p1 a2 b2 p2 a' b' p' l1 : Int) (h0 : a = 0) (h1 : b01 (RR (exP f n 1008 (runE blB f n 0)) a b a1 b1 p1) = 1) (h2 : b01 (RR (exP f n 2059 (exP f n 1008 (runE blB f n 0)).2.2) a1 b1 a2 b2 p2) = 1) (hl1 : l1 = 1) (h : b01 (LM f n (exP f n 2059 (exP f n 1008 (runE blB f n 0)).2.2).2.2 0 0 l1 i c k m l a2 b2 a' b' p') = 1) (hx : ¬ a' = 0 ∨ n ≤ c ∨ tkF f n p' = 3001) : a' = (rdP f n).1 ∧ (¬ a' = 0 ∧ b' = (rdP f n).2.1 ∨ a' = 0 ∧ b' = b ∧ l = (rdP f n).2.2) := by
  subst hl1
  have R := b01_e (rr_sq _ (exP f n 2059) a b a1 b1 p1 a2 b2 p2 h1 h2)
  have E : hdP f n = sqP (exP f n 1008 (runE blB f n 0)) (exP f n 2059) := rfl
  rw [← E] at R
  have S := hd_s f n
  rcases R with r | ⟨r1, r2, r3⟩
  · exact absurd h0 r.1
  · rcases rdP_s f n with w | w
    · rcases r3 with r3 | r3
      · omega
      · have e22 : (hdP f n).2.2 = (exP f n 2059 (exP f n 1008 (runE blB f n 0)).2.2).2.2 := by
          rcases S with S | S
          · exact S.2.2.2
          · omega
        have L := lm_e f n _ _ _ _ _ _ _ _ _ _ _ _ _ _ h r3.1 hx
        rw [w.2, e22]
        rcases L with ⟨L1, L2 | L2⟩
        · exact ⟨L1, Or.inl L2⟩
        · exact ⟨L1, Or.inr ⟨L2.1, by omega, L2.2.2⟩⟩
    · rcases r3 with r3 | r3
      · rcases b01_e h with q | q | q
        · rw [w.2]; exact ⟨by omega, Or.inl ⟨by omega, by omega⟩⟩
        · omega
        · omega
      · omega
end PQ4
theorem po_e {n i a p : Int} (h : b01 (PO n i a p) = 1) : ¬ a = 0 ∨ p = i ∧ 0 ≤ i ∧ i ≤ n := b01_e h
theorem po_mk (n i a p : Int) (h : p = i) (h1 : 0 ≤ p ∧ p ≤ n) : b01 (PO n i a p) = 1 := b01_i (Or.inr ⟨h, by omega, by omega⟩)
theorem fa_4 (f : Nat → Int) (n k i a b p a' b' p' : Int) (hk : 1 ≤ k) (hp : b01 (PO n i a p) = 1) (h0 : a = 0) (ht : ¬ tkF f n p = 3000) (h : b01 (RR (faQ f n k i) a b a' b' p') = 1) : a' = k ∧ b' = i := by
  have q := po_0 hp h0
  obtain rfl := q.1
  have e1 : (faQ f n k p).1 = k := by show flP f n p k = k; unfold flP; rw [if_neg ht]
  have e2 : (faQ f n k p).2.1 = p := rfl
  rcases b01_e h with r | ⟨r1, r2, r3⟩
  · exact absurd h0 r.1
  · rcases r3 with r3 | r3
    · exact ⟨by omega, by omega⟩
    · omega
theorem ck_c (a' k m l k0 m0 l0 k' m' : Int) (h : b01 (CK a' k m l k0 m0 l0) = 1) (hk : k' = k) (hm : m' = m) : b01 (CK a' k' m' l k0 m0 l0) = 1 := by rw [hk, hm]; exact h
theorem lm_1 (f : Nat → Int) (n i k m l a b p : Int) (hk : k = 0) (hm : m = 0) (hl : l = 1) (hp : b01 (PO n i a p) = 1) : b01 (LM f n i 0 0 1 i 0 k m l a b a b p) = 1 := by
  subst hk hm hl; exact lm_0 f n i 0 0 1 a b p hp
theorem su_q (f : Nat → Int) (n : Int) (r r2 : Nat) (hr : r2 = r + 1) (i : Int) : suR f n r2 i = sqP (teP f n false (suR f n r) i) (luP f n 2043 2045 (teP f n false (suR f n r))) := by subst hr; rfl
theorem su_q0 (f : Nat → Int) (n : Int) (i : Int) : suR f n 0 i = sqP (teP f n true (fun i => (0, 0, i)) i) (luP f n 2043 2045 (teP f n true (fun i => (0, 0, i)))) := rfl
theorem tkx_j {f : Nat → Int} {n : Int} {M M' : mm_M} {a gi : Int} (e : M' = wI M 78 2 (sI (a + 1))) (h : b01 (TKX f n M) = 1) (ha : a = (M.1 78 2).toInt) (ht : ¬ tkF f n (psX M) = 3000 ∧ ¬ tkF f n (psX M) = 3001) (hg : b01 (PO n gi (M.1 78 5).toInt (psX M)) = 1) : b01 (TKX f n M') = 1 ∧ (M'.1 78 5).toInt = (M.1 78 5).toInt ∧ (M'.1 78 6).toInt = (M.1 78 6).toInt ∧ b01 (PO n (nxF f n gi) (M'.1 78 5).toInt (psX M')) = 1 := by
  obtain ⟨r1, r2, r3, r4⟩ := tkx_i e h ha ht (po_e hg)
  refine ⟨r1, r2, r3, b01_i ?_⟩
  rcases r4 with r4 | r4
  · exact Or.inl r4
  · exact Or.inr ⟨r4.1, r4.2.1.1, r4.2.1.2⟩
theorem ns_z (c m : Int) (h : m = 0) : b01 (NOS c m) = 1 := by subst h; exact ns_0 c
theorem pbxt {M0 M M1 M2 : mm_M} {x t t' v s : Int} (h : b01 (PBX M0 M x) = 1) (e1 : M1 = wI M 1 t.toNat (sI v)) (e2 : M2 = wI M1 0 1 (sI (t' + 1))) (htt : t' = t) (ht : t = (M.1 0 1).toInt ∧ (M0.1 0 1).toInt ≤ t ∧ 0 ≤ t ∧ t ≤ 900) (hv : v = byU x s ∧ -2147483648 ≤ v ∧ v ≤ 2147483647) (hs : s = 24 - 8 * (t - (M0.1 0 1).toInt)) : b01 (PBX M0 M2 x) = 1 := by
  subst htt; exact pbxs h e1 e2 ht hv hs
