section
/-! THE LAWS' CODES, what they come to -/
/-! how deep the stack goes -/
section PLL
variable (f : Nat → Int) (n : Int)
def dpS (c d : Int) : Int := if c < 3000 then d + 1 else if c = 3006 then d else d - 1
def dpL : List Int → Int → Int
  | [], d => d
  | c :: L, d => dpL L (dpS c d)
def okL (B : Int) : List Int → Int → Prop
  | [], _ => True
  | c :: L, d => okc c d ∧ dpS c d ≤ B ∧ okL B L (dpS c d)
theorem dpL_a : ∀ (L K : List Int) (d : Int), dpL (L ++ K) d = dpL K (dpL L d)
  | [], _, _ => rfl
  | c :: L, K, d => dpL_a L K (dpS c d)
theorem okL_a (B : Int) : ∀ (L K : List Int) (d : Int), okL B L d → okL B K (dpL L d) → okL B (L ++ K) d
  | [], _, _, _, h => h
  | c :: L, K, d, h, h2 => ⟨h.1, h.2.1, okL_a B L K (dpS c d) h.2.2 h2⟩
/-- one value more, m deeper at most -/
def EXQ (m : Int) (L : List Int) : Prop := ∀ d B : Int, 0 ≤ d → d + m ≤ B → okL B L d ∧ dpL L d = d + 1
def LPQ (m : Int) (L : List Int) : Prop := ∀ d B : Int, 1 ≤ d → d + m ≤ B → okL B L d ∧ dpL L d = d
theorem EXQ.m {m m' : Int} {L : List Int} (h : EXQ m L) (hm : m ≤ m') : EXQ m' L := fun d B h0 h1 => h d B h0 (by omega)
theorem LPQ.m {m m' : Int} {L : List Int} (h : LPQ m L) (hm : m ≤ m') : LPQ m' L := fun d B h0 h1 => h d B h0 (by omega)
theorem ex_1c {c : Int} (h : 0 ≤ c ∧ c ≤ 1007) : EXQ 1 [c] := fun d B h0 h1 => by
  have e : dpS c d = d + 1 := by unfold dpS; rw [if_pos (by omega)]
  exact ⟨⟨Or.inl ⟨by omega, h.1, h.2⟩, by omega, trivial⟩, e⟩
theorem lp_nil (m : Int) : LPQ m [] := fun d B h0 h1 => ⟨trivial, rfl⟩
theorem lp_st {m c : Int} {L K : List Int} (hc : 3000 ≤ c ∧ ¬ c = 3006) (h0 : 1 ≤ m) (h : EXQ m L) (hk : LPQ m K) : LPQ m (L ++ c :: K) := fun d B h1 h2 => by
  obtain ⟨a1, a2⟩ := h d B (by omega) h2
  obtain ⟨b1, b2⟩ := hk d B h1 h2
  have e : dpS c (d + 1) = d := by unfold dpS; rw [if_neg (by omega), if_neg hc.2]; omega
  refine ⟨okL_a B L _ d a1 ?_, ?_⟩
  · rw [a2]; exact ⟨Or.inr (Or.inr ⟨hc.1, hc.2, by omega⟩), by omega, by rw [e]; exact b1⟩
  · rw [dpL_a, a2]; show dpL K (dpS c (d + 1)) = d; rw [e]; exact b2
theorem ex_lp {m m' : Int} {L K : List Int} (h : EXQ m L) (hk : LPQ m' K) (hm : m' + 1 ≤ m) : EXQ m (L ++ K) := fun d B h1 h2 => by
  obtain ⟨a1, a2⟩ := h d B h1 h2
  obtain ⟨b1, b2⟩ := hk (d + 1) B (by omega) (by omega)
  exact ⟨okL_a B L K d a1 (by rw [a2]; exact b1), by rw [dpL_a, a2]; exact b2⟩
theorem ex_bin {m m' c : Int} {L K : List Int} (hc : 3000 ≤ c ∧ ¬ c = 3006) (h : EXQ m L) (hk : EXQ m' K) (hm : m' + 1 ≤ m) (h0 : 1 ≤ m) : EXQ m (L ++ (K ++ [c])) := fun d B h1 h2 => by
  obtain ⟨a1, a2⟩ := h d B h1 h2
  obtain ⟨b1, b2⟩ := hk (d + 1) B (by omega) (by omega)
  have e : dpS c (d + 1 + 1) = d + 1 := by unfold dpS; rw [if_neg (by omega), if_neg hc.2]; omega
  refine ⟨okL_a B L _ d a1 ?_, ?_⟩
  · rw [a2]; refine okL_a B K _ _ b1 ?_; rw [b2]; exact ⟨Or.inr (Or.inr ⟨hc.1, hc.2, by omega⟩), by omega, trivial⟩
  · rw [dpL_a, a2, dpL_a, b2]; exact e
theorem ex_not {m : Int} {L : List Int} (h : EXQ m L) (h0 : 1 ≤ m) : EXQ m (L ++ [3006]) := fun d B h1 h2 => by
  obtain ⟨a1, a2⟩ := h d B h1 h2
  have e : dpS 3006 (d + 1) = d + 1 := by unfold dpS; rw [if_neg (by decide), if_pos rfl]
  refine ⟨okL_a B L _ d a1 ?_, ?_⟩
  · rw [a2]; exact ⟨Or.inr (Or.inl ⟨rfl, by omega⟩), by omega, trivial⟩
  · rw [dpL_a, a2]; exact e
theorem cm_b {t a b : Int} (h : t = a ∨ t = b) (ha : 3000 ≤ cmF a ∧ ¬ cmF a = 3006) (hb : 3000 ≤ cmF b ∧ ¬ cmF b = 3006) : 3000 ≤ cmF t ∧ ¬ cmF t = 3006 := by
  rcases h with rfl | rfl
  · exact ha
  · exact hb
theorem nx_0 (i : Int) : 0 ≤ nxF f n i := by unfold nxF runE; exact Int.natCast_nonneg _
theorem lp_lu {a b m : Int} {G : Int → Int × Int × Int} {GL : Int → List Int} (ha : 3000 ≤ cmF a ∧ ¬ cmF a = 3006) (hb : 3000 ≤ cmF b ∧ ¬ cmF b = 3006) (h0 : 1 ≤ m) (h : ∀ j, 0 ≤ j → (G j).1 = 0 → EXQ m (GL j)) (i : Int) : LPQ m (luL f n a b G GL i) := by
  unfold luL
  have key : ∀ (k : Nat) (i : Int), LPQ m (lpL (tqB f n a b) (fun j => G (nxF f n j)) (fun j => GL (nxF f n j) ++ [cmF (tkF f n j)]) k i) := by
    intro k
    induction k with
    | zero => intro i; exact lp_nil m
    | succ k ih =>
      intro i
      rw [lpL]
      by_cases z : tqB f n a b i = true
      · rw [if_pos z]
        by_cases y : (G (nxF f n i)).1 = 0
        · rw [if_pos y]
          have := lp_st (cm_b (of_decide_eq_true z) ha hb) h0 (h _ (nx_0 f n i) y) (ih (G (nxF f n i)).2.2)
          simpa using this
        · rw [if_neg y]; exact lp_nil m
      · rw [if_neg z]; exact lp_nil m
  exact key _ i
theorem at_x {d : Bool} {sub : Int → Int × Int × Int} {subL : Int → List Int} {m : Int} (hm : 1 ≤ m) (h : d = false → ∀ j, 0 ≤ j → (sub j).1 = 0 → EXQ m (subL j)) (i : Int) (hi : 0 ≤ i) (h0 : (atP f n d sub i).1 = 0) : EXQ m (atL f n d subL i) := by
  have v := tkF_v f n i hi
  have fl := flP_s f n i 2
  unfold atL
  rcases atP_s f n d sub i with q | q | q | q
  · rw [if_pos q.1]; exact (ex_1c (by omega)).m hm
  · omega
  · rw [if_neg (by omega), if_pos q.1, q.2.1, if_neg (by decide)]
    refine h q.2.1 _ (nx_0 f n i) ?_
    rw [q.2.2] at h0
    rcases sqP_s (sub (nxF f n i)) (exP f n 2041) with s | s
    · exact s.1
    · omega
  · omega
theorem sq_0 {A : Int × Int × Int} {F : Int → Int × Int × Int} (h : (sqP A F).1 = 0) : A.1 = 0 ∧ (F A.2.2).1 = 0 := by
  rcases sqP_s A F with s | s
  · exact ⟨s.1, by omega⟩
  · omega
theorem te_x {d : Bool} {sub : Int → Int × Int × Int} {subL : Int → List Int} {m : Int} (hm : 1 ≤ m) (h : d = false → ∀ j, 0 ≤ j → (sub j).1 = 0 → EXQ m (subL j)) (i : Int) (hi : 0 ≤ i) (h0 : (teP f n d sub i).1 = 0) : EXQ (m + 1) (teL f n d sub subL i) := by
  obtain ⟨a, b⟩ := sq_0 h0
  exact ex_lp ((at_x f n hm h i hi a).m (by omega)) (lp_lu f n (by decide) (by decide) hm (fun j hj z => at_x f n hm h j hj z) _) (by omega)
theorem su_x {d : Bool} {sub : Int → Int × Int × Int} {subL : Int → List Int} {m : Int} (hm : 1 ≤ m) (h : d = false → ∀ j, 0 ≤ j → (sub j).1 = 0 → EXQ m (subL j)) (i : Int) (hi : 0 ≤ i) (h0 : (suP f n d sub i).1 = 0) : EXQ (m + 2) (suL f n d sub subL i) := by
  obtain ⟨a, b⟩ := sq_0 h0
  exact ex_lp ((te_x f n hm h i hi a).m (by omega)) (lp_lu f n (by decide) (by decide) (by omega) (fun j hj z => te_x f n hm h j hj z) _) (by omega)
theorem sLR_x : ∀ (r : Nat) (i : Int), 0 ≤ i → (suR f n r i).1 = 0 → EXQ (3 + 2 * (r : Int)) (sLR f n r i)
  | 0, i, hi, h => (su_x f n (m := 1) (by decide) (fun z => by cases z) i hi h).m (by omega)
  | r + 1, i, hi, h => (su_x f n (m := 3 + 2 * (r : Int)) (by omega) (fun _ j hj z => sLR_x r j hj z) i hi h).m (by omega)
theorem un_x {d : Bool} {su subU subT : Int → Int × Int × Int} {sl uL tL : Int → List Int} {m : Int} (hm : 1 ≤ m) (hs : ∀ j, 0 ≤ j → (su j).1 = 0 → EXQ m (sl j)) (hu : d = false → ∀ j, 0 ≤ j → (subU j).1 = 0 → EXQ (m + 1) (uL j)) (ht : d = false → ∀ j, 0 ≤ j → (subT j).1 = 0 → EXQ (m + 1) (tL j)) (i : Int) (hi : 0 ≤ i) (h0 : (unP f n d su subU subT i).1 = 0) : EXQ (m + 1) (unL f n d su sl uL tL i) := by
  unfold unL
  rcases unP_s f n d su subU subT i with q | q | q | q | q
  · omega
  · rw [if_pos q.1, q.2.1, if_neg (by decide)]
    rw [q.2.2] at h0
    exact ex_not (hu q.2.1 _ (nx_0 f n i) h0) (by omega)
  · omega
  · rw [if_neg (by omega), if_pos q.1, q.2.1, if_neg (by decide)]
    rw [q.2.2] at h0
    exact ht q.2.1 _ (nx_0 f n i) (sq_0 h0).1
  · rw [if_neg q.1, if_neg q.2.1]
    rw [q.2.2] at h0
    obtain ⟨a, b⟩ := sq_0 h0
    have fl := flP_s f n (su i).2.2 2
    rcases cmP_s f n su (su i).2.2 with c | c
    · have hb : (cmP f n su (su i).2.2).1 = 0 := b
      refine ex_bin ?_ ((hs i hi a).m (by omega)) (hs _ (nx_0 f n _) (by omega)) (by omega) (by omega)
      rcases c.1 with z | z | z
      · rw [z]; decide
      · rw [z]; decide
      · rw [z]; decide
    · have hb : (cmP f n su (su i).2.2).1 = 0 := b
      omega
theorem bo_x {u : Int → Int × Int × Int} {uL : Int → List Int} {m : Int} (hm : 1 ≤ m) (h : ∀ j, 0 ≤ j → (u j).1 = 0 → EXQ m (uL j)) (i : Int) (hi : 0 ≤ i) (h0 : (boP f n u i).1 = 0) : EXQ (m + 1) (boL f n u uL i) := by
  obtain ⟨a, b⟩ := sq_0 h0
  exact ex_lp ((h i hi a).m (by omega)) (lp_lu f n (by decide) (by decide) hm h _) (by omega)
theorem tr_x {u : Int → Int × Int × Int} {uL : Int → List Int} {m : Int} (hm : 1 ≤ m) (h : ∀ j, 0 ≤ j → (u j).1 = 0 → EXQ m (uL j)) (i : Int) (hi : 0 ≤ i) (h0 : (trP f n u i).1 = 0) : EXQ (m + 2) (trL f n u uL i) := by
  obtain ⟨a, b⟩ := sq_0 h0
  exact ex_lp ((bo_x f n hm h i hi a).m (by omega)) (lp_lu f n (by decide) (by decide) (by omega) (fun j hj z => bo_x f n hm h j hj z) _) (by omega)
theorem uLR_x : ∀ (r : Nat) (i : Int), 0 ≤ i → (unR f n r i).1 = 0 → EXQ (4 + 2 * (r : Int)) (uLR f n r i)
  | 0, i, hi, h => (un_x f n (m := 3) (by decide) (fun j hj z => (sLR_x f n 0 j hj z).m (by omega)) (fun z => by cases z) (fun z => by cases z) i hi h).m (by omega)
  | r + 1, i, hi, h => (un_x f n (m := 3 + 2 * ((r + 1 : Nat) : Int)) (by omega) (fun j hj z => sLR_x f n (r + 1) j hj z) (fun _ j hj z => (uLR_x r j hj z).m (by omega)) (fun _ j hj z => (tr_x f n (m := 4 + 2 * (r : Int)) (by omega) (fun j hj z => uLR_x r j hj z) j hj z).m (by omega)) i hi h).m (by omega)
end PLL
/-! what a law's codes come to -/
def rkL (W : Nat → Int) : List Int → Int × (Nat → Int) → Int × (Nat → Int)
  | [], p => p
  | c :: L, p => rkL W L (rkT W c p)
theorem rkL_a (W : Nat → Int) : ∀ (L K : List Int) (p : Int × (Nat → Int)), rkL W (L ++ K) p = rkL W K (rkL W L p)
  | [], _, _ => rfl
  | c :: L, K, p => rkL_a W L K (rkT W c p)
def bitQ (v : Int) : Prop := v = 0 ∨ v = 1
def VAQ (L : List Int) : Prop := ∀ (W : Nat → Int) (p : Int × (Nat → Int)), 0 ≤ p.1 → (rkL W L p).1 = p.1 + 1 ∧ ∀ j : Nat, (j : Int) < p.1 → (rkL W L p).2 j = p.2 j
def VBQ (L : List Int) : Prop := ∀ (W : Nat → Int) (p : Int × (Nat → Int)), 0 ≤ p.1 → (rkL W L p).1 = p.1 + 1 ∧ (∀ j : Nat, (j : Int) < p.1 → (rkL W L p).2 j = p.2 j) ∧ bitQ ((rkL W L p).2 p.1.toNat)
def LAQ (L : List Int) : Prop := ∀ (W : Nat → Int) (p : Int × (Nat → Int)), 1 ≤ p.1 → (rkL W L p).1 = p.1 ∧ ∀ j : Nat, (j : Int) < p.1 - 1 → (rkL W L p).2 j = p.2 j
def LBQ (L : List Int) : Prop := ∀ (W : Nat → Int) (p : Int × (Nat → Int)), 1 ≤ p.1 → bitQ (p.2 (p.1 - 1).toNat) → (rkL W L p).1 = p.1 ∧ (∀ j : Nat, (j : Int) < p.1 - 1 → (rkL W L p).2 j = p.2 j) ∧ bitQ ((rkL W L p).2 (p.1 - 1).toNat)
theorem uI_o {g : Nat → Int} {k j : Nat} {v : Int} (h : j ≠ k) : uI g k v j = g j := by unfold uI; rw [if_neg h]
theorem uI_s {g : Nat → Int} {k : Nat} {v : Int} : uI g k v k = v := by unfold uI; rw [if_pos rfl]
theorem va_b {L : List Int} (h : VBQ L) : VAQ L := fun W p h0 => ⟨(h W p h0).1, (h W p h0).2.1⟩
theorem va_c {c : Int} (h : c < 3000) : VAQ [c] := fun W p h0 => by
  show (rkT W c p).1 = _ ∧ ∀ j : Nat, _ → (rkT W c p).2 j = _
  unfold rkT
  rw [if_pos h]
  exact ⟨rfl, fun j hj => uI_o (by omega)⟩
theorem va_bin {c : Int} {L K : List Int} (hc : 3000 ≤ c ∧ ¬ c = 3006) (h : VAQ L) (hk : VAQ K) (W : Nat → Int) (p : Int × (Nat → Int)) (h0 : 0 ≤ p.1) : (rkL W (L ++ (K ++ [c])) p).1 = p.1 + 1 ∧ (∀ j : Nat, (j : Int) < p.1 → (rkL W (L ++ (K ++ [c])) p).2 j = p.2 j) ∧ ∃ a b, (rkL W (L ++ (K ++ [c])) p).2 p.1.toNat = btF c a b := by
  rw [rkL_a, rkL_a]
  obtain ⟨a1, a2⟩ := h W p h0
  obtain ⟨b1, b2⟩ := hk W (rkL W L p) (by omega)
  show (rkT W c _).1 = _ ∧ (∀ j : Nat, _ → (rkT W c _).2 j = _) ∧ ∃ a b, (rkT W c _).2 _ = _
  unfold rkT
  rw [if_neg (by omega), if_neg hc.2]
  refine ⟨by show _ - 1 = _; omega, fun j hj => ?_, (rkL W K (rkL W L p)).2 ((rkL W K (rkL W L p)).1 - 1 - 1).toNat, (rkL W K (rkL W L p)).2 ((rkL W K (rkL W L p)).1 - 1).toNat, ?_⟩
  · show uI _ _ _ j = _
    rw [uI_o (by omega), b2 j (by omega), a2 j hj]
  · show uI _ ((rkL W K (rkL W L p)).1 - 1 - 1).toNat _ p.1.toNat = _
    rw [show p.1.toNat = ((rkL W K (rkL W L p)).1 - 1 - 1).toNat by omega, uI_s]
theorem va_two {c : Int} {L K : List Int} (hc : 3000 ≤ c ∧ ¬ c = 3006) (h : VAQ L) (hk : VAQ K) : VAQ (L ++ (K ++ [c])) := fun W p h0 => ⟨(va_bin hc h hk W p h0).1, (va_bin hc h hk W p h0).2.1⟩
theorem bt_b {c a b : Int} (hc : c = 3003 ∨ c = 3004 ∨ c = 3005) : bitQ (btF c a b) := by
  have := btF_s c a b
  unfold bitQ
  omega
theorem vb_cmp {c : Int} {L K : List Int} (hc : c = 3003 ∨ c = 3004 ∨ c = 3005) (h : VAQ L) (hk : VAQ K) : VBQ (L ++ (K ++ [c])) := fun W p h0 => by
  obtain ⟨x, y, a, b, e⟩ := va_bin (c := c) (by omega) h hk W p h0
  exact ⟨x, y, by rw [e]; exact bt_b hc⟩
theorem vb_not {L : List Int} (h : VBQ L) : VBQ (L ++ [3006]) := fun W p h0 => by
  rw [rkL_a]
  obtain ⟨a1, a2, a3⟩ := h W p h0
  show (rkT W 3006 _).1 = _ ∧ (∀ j : Nat, _ → (rkT W 3006 _).2 j = _) ∧ bitQ ((rkT W 3006 _).2 _)
  unfold rkT
  rw [if_neg (by decide), if_pos rfl]
  refine ⟨a1, fun j hj => ?_, ?_⟩
  · show uI _ _ _ j = _
    rw [uI_o (by omega), a2 j hj]
  · show bitQ (uI _ _ _ _)
    rw [show ((rkL W L p).1 - 1).toNat = p.1.toNat by omega, uI_s]
    rcases a3 with z | z
    · rw [z]; right; decide
    · rw [z]; left; decide
theorem la_nil : LAQ [] := fun W p h0 => ⟨rfl, fun j hj => rfl⟩
theorem lb_nil : LBQ [] := fun W p h0 h1 => ⟨rfl, fun j hj => rfl, h1⟩
theorem la_st {c : Int} {L K : List Int} (hc : 3000 ≤ c ∧ ¬ c = 3006) (h : VAQ L) (hk : LAQ K) : LAQ (L ++ c :: K) := fun W p h0 => by
  rw [rkL_a]
  obtain ⟨a1, a2⟩ := h W p (by omega)
  have e : (rkT W c (rkL W L p)).1 = p.1 ∧ ∀ j : Nat, (j : Int) < p.1 - 1 → (rkT W c (rkL W L p)).2 j = p.2 j := by
    unfold rkT
    rw [if_neg (by omega), if_neg hc.2]
    refine ⟨by show _ - 1 = _; omega, fun j hj => ?_⟩
    show uI _ _ _ j = _
    rw [uI_o (by omega), a2 j (by omega)]
  obtain ⟨b1, b2⟩ := hk W (rkT W c (rkL W L p)) (by omega)
  exact ⟨by show (rkL W K _).1 = _; omega, fun j hj => by show (rkL W K _).2 j = _; rw [b2 j (by omega), e.2 j hj]⟩
theorem bt_ao {c a b : Int} (hc : c = 3007 ∨ c = 3008) (ha : bitQ a) (hb : bitQ b) : bitQ (btF c a b) := by
  rcases hc with rfl | rfl
  · rcases ha with rfl | rfl
    · rcases hb with rfl | rfl
      · left; decide
      · left; decide
    · rcases hb with rfl | rfl
      · left; decide
      · right; decide
  · rcases ha with rfl | rfl
    · rcases hb with rfl | rfl
      · left; decide
      · right; decide
    · rcases hb with rfl | rfl
      · right; decide
      · right; decide
theorem lb_st {c : Int} {L K : List Int} (hc : c = 3007 ∨ c = 3008) (h : VBQ L) (hk : LBQ K) : LBQ (L ++ c :: K) := fun W p h0 h1 => by
  rw [rkL_a]
  obtain ⟨a1, a2, a3⟩ := h W p (by omega)
  have e : (rkT W c (rkL W L p)).1 = p.1 ∧ (∀ j : Nat, (j : Int) < p.1 - 1 → (rkT W c (rkL W L p)).2 j = p.2 j) ∧ bitQ ((rkT W c (rkL W L p)).2 (p.1 - 1).toNat) := by
    unfold rkT
    rw [if_neg (by omega), if_neg (by omega)]
    refine ⟨by show _ - 1 = _; omega, fun j hj => ?_, ?_⟩
    · show uI _ _ _ j = _
      rw [uI_o (by omega), a2 j (by omega)]
    · show bitQ (uI _ _ _ _)
      rw [show ((rkL W L p).1 - 1 - 1).toNat = (p.1 - 1).toNat by omega, uI_s]
      refine bt_ao hc ?_ ?_
      · rw [a2 (p.1 - 1).toNat (by omega)]; exact h1
      · rw [show ((rkL W L p).1 - 1).toNat = p.1.toNat by omega]; exact a3
  obtain ⟨b1, b2, b3⟩ := hk W (rkT W c (rkL W L p)) (by omega) (by rw [e.1]; exact e.2.2)
  rw [e.1] at b3
  exact ⟨by show (rkL W K _).1 = _; omega, fun j hj => by show (rkL W K _).2 j = _; rw [b2 j (by omega), e.2.1 j hj], b3⟩
theorem va_lp {L K : List Int} (h : VAQ L) (hk : LAQ K) : VAQ (L ++ K) := fun W p h0 => by
  rw [rkL_a]
  obtain ⟨a1, a2⟩ := h W p h0
  obtain ⟨b1, b2⟩ := hk W (rkL W L p) (by omega)
  exact ⟨by omega, fun j hj => by rw [b2 j (by omega), a2 j hj]⟩
theorem vb_lp {L K : List Int} (h : VBQ L) (hk : LBQ K) : VBQ (L ++ K) := fun W p h0 => by
  rw [rkL_a]
  obtain ⟨a1, a2, a3⟩ := h W p h0
  obtain ⟨b1, b2, b3⟩ := hk W (rkL W L p) (by omega) (by rw [show ((rkL W L p).1 - 1).toNat = p.1.toNat by omega]; exact a3)
  rw [show ((rkL W L p).1 - 1).toNat = p.1.toNat by omega] at b3
  exact ⟨by omega, fun j hj => by rw [b2 j (by omega), a2 j hj], b3⟩
section PLV
variable (f : Nat → Int) (n : Int)
theorem la_lu {a b : Int} {G : Int → Int × Int × Int} {GL : Int → List Int} (ha : 3000 ≤ cmF a ∧ ¬ cmF a = 3006) (hb : 3000 ≤ cmF b ∧ ¬ cmF b = 3006) (h : ∀ j, 0 ≤ j → (G j).1 = 0 → VAQ (GL j)) (i : Int) : LAQ (luL f n a b G GL i) := by
  unfold luL
  have key : ∀ (k : Nat) (i : Int), LAQ (lpL (tqB f n a b) (fun j => G (nxF f n j)) (fun j => GL (nxF f n j) ++ [cmF (tkF f n j)]) k i) := by
    intro k
    induction k with
    | zero => intro i; exact la_nil
    | succ k ih =>
      intro i
      rw [lpL]
      by_cases z : tqB f n a b i = true
      · rw [if_pos z]
        by_cases y : (G (nxF f n i)).1 = 0
        · rw [if_pos y]
          have := la_st (cm_b (of_decide_eq_true z) ha hb) (h _ (nx_0 f n i) y) (ih (G (nxF f n i)).2.2)
          simpa using this
        · rw [if_neg y]; exact la_nil
      · rw [if_neg z]; exact la_nil
  exact key _ i
theorem lb_lu {a : Int} {G : Int → Int × Int × Int} {GL : Int → List Int} (ha : cmF a = 3007 ∨ cmF a = 3008) (h : ∀ j, 0 ≤ j → (G j).1 = 0 → VBQ (GL j)) (i : Int) : LBQ (luL f n a a G GL i) := by
  unfold luL
  have key : ∀ (k : Nat) (i : Int), LBQ (lpL (tqB f n a a) (fun j => G (nxF f n j)) (fun j => GL (nxF f n j) ++ [cmF (tkF f n j)]) k i) := by
    intro k
    induction k with
    | zero => intro i; exact lb_nil
    | succ k ih =>
      intro i
      rw [lpL]
      by_cases z : tqB f n a a i = true
      · rw [if_pos z]
        by_cases y : (G (nxF f n i)).1 = 0
        · rw [if_pos y]
          have e : tkF f n i = a := by have := of_decide_eq_true z; omega
          have := lb_st (c := cmF (tkF f n i)) (by rw [e]; exact ha) (h _ (nx_0 f n i) y) (ih (G (nxF f n i)).2.2)
          simpa using this
        · rw [if_neg y]; exact lb_nil
      · rw [if_neg z]; exact lb_nil
  exact key _ i
theorem at_v {d : Bool} {sub : Int → Int × Int × Int} {subL : Int → List Int} (h : d = false → ∀ j, 0 ≤ j → (sub j).1 = 0 → VAQ (subL j)) (i : Int) (hi : 0 ≤ i) (h0 : (atP f n d sub i).1 = 0) : VAQ (atL f n d subL i) := by
  have fl := flP_s f n i 2
  unfold atL
  rcases atP_s f n d sub i with q | q | q | q
  · rw [if_pos q.1]; exact va_c (by omega)
  · omega
  · rw [if_neg (by omega), if_pos q.1, q.2.1, if_neg (by decide)]
    rw [q.2.2] at h0
    exact h q.2.1 _ (nx_0 f n i) (sq_0 h0).1
  · omega
theorem te_v {d : Bool} {sub : Int → Int × Int × Int} {subL : Int → List Int} (h : d = false → ∀ j, 0 ≤ j → (sub j).1 = 0 → VAQ (subL j)) (i : Int) (hi : 0 ≤ i) (h0 : (teP f n d sub i).1 = 0) : VAQ (teL f n d sub subL i) :=
  va_lp (at_v f n h i hi (sq_0 h0).1) (la_lu f n (by decide) (by decide) (fun j hj z => at_v f n h j hj z) _)
theorem su_v {d : Bool} {sub : Int → Int × Int × Int} {subL : Int → List Int} (h : d = false → ∀ j, 0 ≤ j → (sub j).1 = 0 → VAQ (subL j)) (i : Int) (hi : 0 ≤ i) (h0 : (suP f n d sub i).1 = 0) : VAQ (suL f n d sub subL i) :=
  va_lp (te_v f n h i hi (sq_0 h0).1) (la_lu f n (by decide) (by decide) (fun j hj z => te_v f n h j hj z) _)
theorem sLR_v : ∀ (r : Nat) (i : Int), 0 ≤ i → (suR f n r i).1 = 0 → VAQ (sLR f n r i)
  | 0, i, hi, h => su_v f n (fun z => by cases z) i hi h
  | r + 1, i, hi, h => su_v f n (fun _ j hj z => sLR_v r j hj z) i hi h
theorem un_v {d : Bool} {su subU subT : Int → Int × Int × Int} {sl uL tL : Int → List Int} (hs : ∀ j, 0 ≤ j → (su j).1 = 0 → VAQ (sl j)) (hu : d = false → ∀ j, 0 ≤ j → (subU j).1 = 0 → VBQ (uL j)) (ht : d = false → ∀ j, 0 ≤ j → (subT j).1 = 0 → VBQ (tL j)) (i : Int) (hi : 0 ≤ i) (h0 : (unP f n d su subU subT i).1 = 0) : VBQ (unL f n d su sl uL tL i) := by
  unfold unL
  rcases unP_s f n d su subU subT i with q | q | q | q | q
  · omega
  · rw [if_pos q.1, q.2.1, if_neg (by decide)]
    rw [q.2.2] at h0
    exact vb_not (hu q.2.1 _ (nx_0 f n i) h0)
  · omega
  · rw [if_neg (by omega), if_pos q.1, q.2.1, if_neg (by decide)]
    rw [q.2.2] at h0
    exact ht q.2.1 _ (nx_0 f n i) (sq_0 h0).1
  · rw [if_neg q.1, if_neg q.2.1]
    rw [q.2.2] at h0
    obtain ⟨a, b⟩ := sq_0 h0
    have fl := flP_s f n (su i).2.2 2
    have hb : (cmP f n su (su i).2.2).1 = 0 := b
    rcases cmP_s f n su (su i).2.2 with c | c
    · refine vb_cmp ?_ (hs i hi a) (hs _ (nx_0 f n _) (by omega))
      rcases c.1 with z | z | z
      · rw [z]; decide
      · rw [z]; decide
      · rw [z]; decide
    · omega
theorem bo_v {u : Int → Int × Int × Int} {uL : Int → List Int} (h : ∀ j, 0 ≤ j → (u j).1 = 0 → VBQ (uL j)) (i : Int) (hi : 0 ≤ i) (h0 : (boP f n u i).1 = 0) : VBQ (boL f n u uL i) := vb_lp (h i hi (sq_0 h0).1) (lb_lu f n (by decide) h _)
theorem tr_v {u : Int → Int × Int × Int} {uL : Int → List Int} (h : ∀ j, 0 ≤ j → (u j).1 = 0 → VBQ (uL j)) (i : Int) (hi : 0 ≤ i) (h0 : (trP f n u i).1 = 0) : VBQ (trL f n u uL i) := vb_lp (bo_v f n h i hi (sq_0 h0).1) (lb_lu f n (by decide) (fun j hj z => bo_v f n h j hj z) _)
theorem uLR_v : ∀ (r : Nat) (i : Int), 0 ≤ i → (unR f n r i).1 = 0 → VBQ (uLR f n r i)
  | 0, i, hi, h => un_v f n (fun j hj z => sLR_v f n 0 j hj z) (fun z => by cases z) (fun z => by cases z) i hi h
  | r + 1, i, hi, h => un_v f n (fun j hj z => sLR_v f n (r + 1) j hj z) (fun _ j hj z => uLR_v r j hj z) (fun _ j hj z => tr_v f n (fun j hj z => uLR_v r j hj z) j hj z) i hi h
end PLV
end
section
/-! WHAT A TOLD SHOP KEEPS -/
def KQ (T : Nat → Int) : Prop := (0 ≤ T 26 ∧ T 26 ≤ 8) ∧ ∀ k : Int, 0 ≤ k → k < T 26 → (1 ≤ T (33 + k).toNat ∧ T (33 + k).toNat ≤ 99) ∧ 0 ≤ T (41 + k).toNat ∧ T (41 + k).toNat ≤ 9
def BQ (T : Nat → Int) : Prop := (0 ≤ T 1 ∧ T 1 ≤ 6) ∧ ∀ b : Int, 0 ≤ b → b < T 1 → (0 ≤ T (8 + b).toNat ∧ T (8 + b).toNat ≤ 999) ∧ (0 ≤ T (14 + b).toNat ∧ T (14 + b).toNat ≤ 9) ∧ 0 ≤ T (20 + b).toNat ∧ T (20 + b).toNat ≤ 9
def SQ (T : Nat → Int) : Prop := (0 ≤ T 27 ∧ T 27 < pw2 (T 26)) ∧ 0 ≤ T 28 ∧ T 28 < pw2 (T 26)
def GLQ (l : Nat) (L : List Int) : Prop := (EXQ 18 L ∧ VAQ L) ∧ (l = 1 → VBQ L)
def WQ (l : Nat) (T : Nat → Int) : Prop := T (2 + l) = 0 ∨ (T (2 + l) = 1 ∧ 0 ≤ T (4 + l) ∧ T (4 + l) + T (6 + l) ≤ T 280 ∧ ∃ L, GLQ l L ∧ T (6 + l) = (L.length : Int) ∧ ∀ i : Nat, i < L.length → T (281 + T (4 + l) + (i : Int)).toNat = L.getD i 0)
def ZQ (T : Nat → Int) : Prop := 0 ≤ T 280 ∧ T 29 = 0 ∧ T 30 = 0 ∧ T 31 = 0 ∧ T 32 = 0 ∧ T 49 = 0
def RWQ (T : Nat → Int) : Prop := (KQ T ∧ SQ T) ∧ BQ T ∧ (WQ 0 T ∧ WQ 1 T) ∧ ZQ T
theorem or_p : ∀ k : Nat, k < 8 → ∀ a : Nat, a < 256 → (a : Int) < pw2 ((k : Int) + 1) → 0 ≤ orI (a : Int) (pw2 (k : Int)) ∧ orI (a : Int) (pw2 (k : Int)) < pw2 ((k : Int) + 1) := by decide +kernel
theorem pw_m : ∀ k : Nat, k < 8 → pw2 (k : Int) ≤ pw2 ((k : Int) + 1) ∧ pw2 ((k : Int) + 1) ≤ 256 := by decide +kernel
theorem or_q {k a : Int} (hk : 0 ≤ k ∧ k < 8) (h : 0 ≤ a ∧ a < pw2 (k + 1)) : 0 ≤ orI a (pw2 k) ∧ orI a (pw2 k) < pw2 (k + 1) := by
  have m := (pw_m k.toNat (by omega)).2
  rw [show ((k.toNat : Nat) : Int) = k by omega] at m
  have := or_p k.toNat (by omega) a.toNat (by omega)
  rw [show ((k.toNat : Nat) : Int) = k by omega, show ((a.toNat : Nat) : Int) = a by omega] at this
  exact this h.2
theorem lpT_i {P : (Nat → Int) → Prop} {q : Int → Bool} {st : Int → Int × Int × Int} {GT : Int → (Nat → Int) → Nat → Int} (hG : ∀ i T, q i = true → (st i).1 = 0 → P T → P (GT i T)) : ∀ (k : Nat) (i : Int) (T : Nat → Int), P T → P (lpT q st GT k i T)
  | 0, _, _, h => h
  | k + 1, i, T, h => by
    rw [lpT]
    by_cases z : q i = true
    · rw [if_pos z]
      by_cases y : (st i).1 = 0
      · rw [if_pos y]; exact lpT_i hG k _ _ (hG i T z y h)
      · rw [if_neg y]; exact h
    · rw [if_neg z]; exact h
/-! codes written -/
theorem emL_v : ∀ (L : List Int) (T : Nat → Int), 0 ≤ T 280 → (∀ j : Nat, 281 ≤ j → (j : Int) < 281 + T 280 → emL L T j = T j) ∧ ∀ i : Nat, i < L.length → emL L T (281 + T 280 + (i : Int)).toNat = L.getD i 0
  | [], _, _ => ⟨fun _ _ _ => rfl, fun i hi => absurd hi (by simp)⟩
  | c :: L, T, h => by
    have e : emT c T 280 = T 280 + 1 := by unfold emT; exact uT_s
    have o : ∀ j : Nat, j ≠ 280 → j ≠ (281 + T 280).toNat → emT c T j = T j := fun j h1 h2 => by unfold emT; rw [uT_o h1, uT_o h2]
    have s : emT c T (281 + T 280).toNat = c := by unfold emT; rw [uT_o (by omega)]; exact uT_s
    obtain ⟨a, b⟩ := emL_v L (emT c T) (by omega)
    refine ⟨fun j h1 h2 => ?_, fun i hi => ?_⟩
    · show emL L (emT c T) j = _
      rw [a j h1 (by omega), o j (by omega) (by omega)]
    · show emL L (emT c T) _ = _
      cases i with
      | zero =>
        rw [show (281 + T 280 + ((0 : Nat) : Int)).toNat = (281 + T 280).toNat by omega, a _ (by omega) (by omega), s]
        rfl
      | succ i =>
        have := b i (by simpa using hi)
        rw [e, show (281 + (T 280 + 1) + (i : Int)).toNat = (281 + T 280 + ((i + 1 : Nat) : Int)).toNat by omega] at this
        rw [this]
        rfl
theorem wq_o {l : Nat} (hl : l ≤ 1) {T T' : Nat → Int} (h : WQ l T) (e : ∀ j : Nat, (2 ≤ j ∧ j < 8) ∨ 280 ≤ j → T' j = T j) : WQ l T' := by
  unfold WQ at *
  rw [e (2 + l) (by omega), e (4 + l) (by omega), e (6 + l) (by omega), e 280 (by omega)]
  rcases h with h | ⟨h1, h2, h3, L, g, h4, h5⟩
  · exact Or.inl h
  · exact Or.inr ⟨h1, h2, h3, L, g, h4, fun i hi => by rw [e _ (by omega)]; exact h5 i hi⟩
theorem kq_o {T T' : Nat → Int} (h : KQ T ∧ SQ T) (e : ∀ j : Nat, 26 ≤ j → j < 49 → T' j = T j) : KQ T' ∧ SQ T' := by
  obtain ⟨⟨h0, h1⟩, h2⟩ := h
  unfold KQ SQ at *
  rw [e 26 (by omega) (by omega), e 27 (by omega) (by omega), e 28 (by omega) (by omega)]
  exact ⟨⟨h0, fun k a b => by rw [e _ (by omega) (by omega), e _ (by omega) (by omega)]; exact h1 k a b⟩, h2⟩
theorem bq_o {T T' : Nat → Int} (h : BQ T) (e : ∀ j : Nat, j = 1 ∨ (8 ≤ j ∧ j < 26) → T' j = T j) : BQ T' := by
  obtain ⟨h0, h1⟩ := h
  unfold BQ at *
  rw [e 1 (by omega)]
  exact ⟨h0, fun b a c => by rw [e _ (by omega), e _ (by omega), e _ (by omega)]; exact h1 b a c⟩
theorem zq_o {T T' : Nat → Int} (h : ZQ T) (e : ∀ j : Nat, (29 ≤ j ∧ j < 33) ∨ j = 280 ∨ j = 49 → T' j = T j) : ZQ T' := by
  unfold ZQ at *
  rw [e 280 (by omega), e 29 (by omega), e 30 (by omega), e 31 (by omega), e 32 (by omega), e 49 (by omega)]
  exact h
section RP
variable (f : Nat → Int) (n : Int)
theorem nu_r {lo hi i : Int} (h : (nuP f n lo hi i).1 = 0) : lo ≤ tkF f n i ∧ tkF f n i ≤ hi := by
  have a := nuP_s f n lo hi i
  have b := flP_s f n i 2
  omega
theorem fa_0 {i k : Int} (hk : ¬ k = 0) : ¬ (faP f n i k).1 = 0 := by
  have b := flP_s f n i k
  show ¬ flP f n i k = 0
  omega
/-- while a kind's flags are read -/
def KI (k : Int) (T : Nat → Int) : Prop := (KQ T ∧ SQ T) ∧ T 26 = k + 1 ∧ 0 ≤ k
theorem ki_fg {k i : Int} {T : Nat → Int} (hq : fgB f n i = true) (h0 : (fgS f n i).1 = 0) (h : KI k T) : KI k (fgC f n k i T) := by
  obtain ⟨⟨⟨a0, a1⟩, s1, s2⟩, e, k0⟩ := h
  have hk : 0 ≤ k ∧ k < 8 := by omega
  unfold fgC
  by_cases t1 : tkF f n i = 1005
  · rw [if_pos t1]
    have r : 0 ≤ tkF f n (nxF f n i) ∧ tkF f n (nxF f n i) ≤ 9 := nu_r f n (by unfold fgS at h0; rw [if_pos t1] at h0; exact h0)
    have o : ∀ j : Nat, j ≠ (41 + k).toNat → uT T (41 + k).toNat (tkF f n (nxF f n i)) j = T j := fun j hj => uT_o hj
    refine ⟨⟨⟨by rw [o 26 (by omega)]; exact a0, fun j h1 h2 => ?_⟩, ?_, ?_⟩, by rw [o 26 (by omega)]; exact e, k0⟩
    · rw [o 26 (by omega)] at h2
      rw [o (33 + j).toNat (by omega)]
      by_cases c : j = k
      · subst c; rw [uT_s]; exact ⟨(a1 j h1 h2).1, r⟩
      · rw [o (41 + j).toNat (by omega)]; exact a1 j h1 h2
    · rw [o 26 (by omega), o 27 (by omega)]; exact s1
    · rw [o 26 (by omega), o 28 (by omega)]; exact s2
  · rw [if_neg t1]
    by_cases t2 : tkF f n i = 1007
    · rw [if_pos t2]
      have o : ∀ j : Nat, j ≠ 27 → uT T 27 (orI (T 27) (pw2 k)) j = T j := fun j hj => uT_o hj
      refine ⟨⟨⟨by rw [o 26 (by omega)]; exact a0, fun j h1 h2 => ?_⟩, ?_, ?_⟩, by rw [o 26 (by omega)]; exact e, k0⟩
      · rw [o 26 (by omega)] at h2
        rw [o (33 + j).toNat (by omega), o (41 + j).toNat (by omega)]; exact a1 j h1 h2
      · rw [o 26 (by omega), uT_s, e]; exact or_q hk (by rw [e] at s1; exact s1)
      · rw [o 26 (by omega), o 28 (by omega)]; exact s2
    · rw [if_neg t2]
      by_cases t3 : tkF f n i = 1012
      · rw [if_pos t3]
        have o : ∀ j : Nat, j ≠ 28 → uT T 28 (orI (T 28) (pw2 k)) j = T j := fun j hj => uT_o hj
        refine ⟨⟨⟨by rw [o 26 (by omega)]; exact a0, fun j h1 h2 => ?_⟩, ?_, ?_⟩, by rw [o 26 (by omega)]; exact e, k0⟩
        · rw [o 26 (by omega)] at h2
          rw [o (33 + j).toNat (by omega), o (41 + j).toNat (by omega)]; exact a1 j h1 h2
        · rw [o 26 (by omega), o 27 (by omega)]; exact s1
        · rw [o 26 (by omega), uT_s, e]; exact or_q hk (by rw [e] at s2; exact s2)
      · rw [if_neg t3]; exact ⟨⟨⟨a0, a1⟩, s1, s2⟩, e, k0⟩
theorem ki_b {k p : Int} {T : Nat → Int} (h : KQ T ∧ SQ T) (hk : k = T 26 ∧ k < 8) (hp : (nuP f n 1 99 p).1 = 0) : KI k (kiB f n k p T) := by
  obtain ⟨⟨a0, a1⟩, s1, s2⟩ := h
  have r := nu_r f n hp
  have m := (pw_m k.toNat (by omega)).1
  rw [show ((k.toNat : Nat) : Int) = k by omega] at m
  rw [← hk.1] at s1 s2
  have e : kiB f n k p T 26 = k + 1 := by unfold kiB; exact uT_s
  have o : ∀ j : Nat, j ≠ 26 → j ≠ (41 + k).toNat → j ≠ (33 + k).toNat → kiB f n k p T j = T j := fun j h1 h2 h3 => by unfold kiB; rw [uT_o h1, uT_o h2, uT_o h3]
  have v41 : kiB f n k p T (41 + k).toNat = 0 := by unfold kiB; rw [uT_o (by omega), uT_s]
  have v33 : kiB f n k p T (33 + k).toNat = tkF f n p := by unfold kiB; rw [uT_o (by omega), uT_o (by omega), uT_s]
  refine ⟨⟨⟨by rw [e]; omega, fun j h1 h2 => ?_⟩, ?_, ?_⟩, e, by omega⟩
  · by_cases c : j = k
    · rw [c, v33, v41]; omega
    · rw [e] at h2
      rw [o (33 + j).toNat (by omega) (by omega) (by omega), o (41 + j).toNat (by omega) (by omega) (by omega)]; exact a1 j h1 (by omega)
  · rw [e, o 27 (by omega) (by omega) (by omega)]; exact ⟨s1.1, by omega⟩
  · rw [e, o 28 (by omega) (by omega) (by omega)]; exact ⟨s2.1, by omega⟩
theorem kiC_o {k i : Int} (hk : 0 ≤ k ∧ k < 8) {T : Nat → Int} {j : Nat} (hj : j < 26 ∨ (28 < j ∧ j < 33) ∨ 49 ≤ j) : kiC f n k i T j = T j := by
  unfold kiC
  rw [fgT_o f n (by omega) (by omega)]
  unfold kiB
  rw [uT_o (by omega), uT_o (by omega), uT_o (by omega)]
theorem kq_ki {k i : Int} {T : Nat → Int} (h : KQ T ∧ SQ T) (hk : k = T 26) (hp : (kiP f n k i).1 = 0) : k < 8 ∧ KQ (kiC f n k i T) ∧ SQ (kiC f n k i T) := by
  unfold kiP at hp
  by_cases c : 8 ≤ k
  · rw [if_pos c] at hp; exact absurd hp (fa_0 f n (by decide))
  · rw [if_neg c] at hp
    have q := sq_0 hp
    have q2 : (nuP f n 1 99 (exP f n 1004 (nxF f n i)).2.2).1 = 0 := (sq_0 (F := fgP f n) q.2).1
    refine ⟨by omega, ?_⟩
    have := lpT_i (P := KI k) (GT := fgC f n k) (fun i T a b x => ki_fg f n a b x) (n + 1 - (nuP f n 1 99 (exP f n 1004 (nxF f n i)).2.2).2.2).toNat (nuP f n 1 99 (exP f n 1004 (nxF f n i)).2.2).2.2 _ (ki_b f n h ⟨hk, by omega⟩ q2)
    exact this.1
/-- while a buyer's marks are read -/
def BI (b : Int) (T : Nat → Int) : Prop := BQ T ∧ T 1 = b + 1 ∧ 0 ≤ b
theorem bi_mk {b i : Int} {T : Nat → Int} (h0 : (nuP f n 0 9 (nxF f n i)).1 = 0) (h : BI b T) : BI b (mkC f n b i T) := by
  obtain ⟨⟨a0, a1⟩, e, k0⟩ := h
  have r := nu_r f n h0
  unfold mkC
  by_cases t1 : tkF f n i = 1002
  · rw [if_pos t1]
    have o : ∀ j : Nat, j ≠ (14 + b).toNat → uT T (14 + b).toNat (tkF f n (nxF f n i)) j = T j := fun j hj => uT_o hj
    refine ⟨⟨by rw [o 1 (by omega)]; exact a0, fun j h1 h2 => ?_⟩, by rw [o 1 (by omega)]; exact e, k0⟩
    rw [o 1 (by omega)] at h2
    rw [o (8 + j).toNat (by omega), o (20 + j).toNat (by omega)]
    by_cases c : j = b
    · subst c; rw [uT_s]; exact ⟨(a1 j h1 h2).1, r, (a1 j h1 h2).2.2⟩
    · rw [o (14 + j).toNat (by omega)]; exact a1 j h1 h2
  · rw [if_neg t1]
    by_cases t2 : tkF f n i = 1013
    · rw [if_pos t2]
      have o : ∀ j : Nat, j ≠ (20 + b).toNat → uT T (20 + b).toNat (tkF f n (nxF f n i)) j = T j := fun j hj => uT_o hj
      refine ⟨⟨by rw [o 1 (by omega)]; exact a0, fun j h1 h2 => ?_⟩, by rw [o 1 (by omega)]; exact e, k0⟩
      rw [o 1 (by omega)] at h2
      rw [o (8 + j).toNat (by omega), o (14 + j).toNat (by omega)]
      by_cases c : j = b
      · subst c; rw [uT_s]; exact ⟨(a1 j h1 h2).1, (a1 j h1 h2).2.1, r⟩
      · rw [o (20 + j).toNat (by omega)]; exact a1 j h1 h2
    · rw [if_neg t2]; exact ⟨⟨a0, a1⟩, e, k0⟩
theorem bi_b {b p : Int} {T : Nat → Int} (h : BQ T) (hk : b = T 1 ∧ b < 6) (hp : (nuP f n 0 999 p).1 = 0) : BI b (buB f n b p T) := by
  obtain ⟨a0, a1⟩ := h
  have r := nu_r f n hp
  have e : buB f n b p T 1 = b + 1 := by unfold buB; exact uT_s
  have o : ∀ j : Nat, j ≠ 1 → j ≠ (20 + b).toNat → j ≠ (14 + b).toNat → j ≠ (8 + b).toNat → buB f n b p T j = T j := fun j h1 h2 h3 h4 => by unfold buB; rw [uT_o h1, uT_o h2, uT_o h3, uT_o h4]
  have v20 : buB f n b p T (20 + b).toNat = 1 := by unfold buB; rw [uT_o (by omega), uT_s]
  have v14 : buB f n b p T (14 + b).toNat = 0 := by unfold buB; rw [uT_o (by omega), uT_o (by omega), uT_s]
  have v8 : buB f n b p T (8 + b).toNat = tkF f n p := by unfold buB; rw [uT_o (by omega), uT_o (by omega), uT_o (by omega), uT_s]
  refine ⟨⟨by rw [e]; omega, fun j h1 h2 => ?_⟩, e, by omega⟩
  by_cases c : j = b
  · rw [c, v8, v14, v20]; omega
  · rw [e] at h2
    rw [o (8 + j).toNat (by omega) (by omega) (by omega) (by omega), o (14 + j).toNat (by omega) (by omega) (by omega) (by omega), o (20 + j).toNat (by omega) (by omega) (by omega) (by omega)]; exact a1 j h1 (by omega)
theorem buC_o {b i : Int} (hb : 0 ≤ b ∧ b < 6) {T : Nat → Int} {j : Nat} (hj : j = 0 ∨ (1 < j ∧ j < 8) ∨ 26 ≤ j) : buC f n b i T j = T j := by
  unfold buC
  rw [mkT_o f n (by omega)]
  unfold buB
  rw [uT_o (by omega), uT_o (by omega), uT_o (by omega), uT_o (by omega)]
theorem bq_bu {b i : Int} {T : Nat → Int} (h : BQ T) (hk : b = T 1) (hp : (buP f n b i).1 = 0) : b < 6 ∧ BQ (buC f n b i T) := by
  unfold buP at hp
  by_cases c : 6 ≤ b
  · rw [if_pos c] at hp; exact absurd hp (fa_0 f n (by decide))
  · rw [if_neg c] at hp
    have q := sq_0 hp
    have q2 : (nuP f n 0 999 (exP f n 1001 (nxF f n i)).2.2).1 = 0 := (sq_0 (F := luP f n 1002 1013 (nuP f n 0 9)) q.2).1
    refine ⟨by omega, ?_⟩
    have := lpT_i (P := BI b) (q := tqB f n 1002 1013) (st := fun j => nuP f n 0 9 (nxF f n j)) (GT := mkC f n b) (fun i T a z x => bi_mk f n z x) (n + 1 - (nuP f n 0 999 (exP f n 1001 (nxF f n i)).2.2).2.2).toNat (nuP f n 0 999 (exP f n 1001 (nxF f n i)).2.2).2.2 _ (bi_b f n h ⟨hk, by omega⟩ q2)
    exact this.1
/-- a law's line -/
theorem lwC_v {l : Nat} (hl : l ≤ 1) {L : List Int} {T : Nat → Int} (h : 0 ≤ T 280) {j : Nat} (hj : j ≠ 2 + l ∧ j ≠ 4 + l ∧ j ≠ 6 + l) (hk : j < 280 ∨ (281 ≤ j ∧ (j : Int) < 281 + T 280)) : lwC l L T j = T j := by
  unfold lwC
  rw [uT_o hj.2.2, uT_o hj.2.1, uT_o hj.1]
  rcases hk with c | c
  · exact emL_o L T h c
  · exact (emL_v L T h).1 j c.1 c.2
theorem lwC_280 {l : Nat} (hl : l ≤ 1) (L : List Int) (T : Nat → Int) : lwC l L T 280 = T 280 + (L.length : Int) := by
  rw [lwC_o hl L T (by omega), emL_280]
theorem rw_lw {l : Nat} (hl : l ≤ 1) {L : List Int} {T : Nat → Int} (h : RWQ T) (g : GLQ l L) : RWQ (lwC l L T) := by
  obtain ⟨h1, h2, h3, h4⟩ := h
  have z := h4.1
  refine ⟨kq_o h1 (fun j a b => lwC_v hl z (by omega) (by omega)), bq_o h2 (fun j a => lwC_v hl z (by omega) (by omega)), ?_, ?_⟩
  · have own : WQ l (lwC l L T) := by
      refine Or.inr ⟨?_, ?_, ?_, L, g, ?_, fun i hi => ?_⟩
      · unfold lwC; rw [uT_o (by omega), uT_o (by omega), uT_s]
      · rw [show lwC l L T (4 + l) = T 280 by unfold lwC; rw [uT_o (by omega), uT_s]]; exact z
      · rw [show lwC l L T (4 + l) = T 280 by unfold lwC; rw [uT_o (by omega), uT_s], show lwC l L T (6 + l) = emL L T 280 - T 280 by unfold lwC; rw [uT_s], lwC_280 hl, emL_280]; omega
      · rw [show lwC l L T (6 + l) = emL L T 280 - T 280 by unfold lwC; rw [uT_s], emL_280]; omega
      · rw [show lwC l L T (4 + l) = T 280 by unfold lwC; rw [uT_o (by omega), uT_s], lwC_o hl L T (by omega)]
        exact (emL_v L T z).2 i hi
    have oth : ∀ m : Nat, m ≤ 1 → m ≠ l → WQ m T → WQ m (lwC l L T) := fun m hm hne w => by
      have e2 : lwC l L T (2 + m) = T (2 + m) := lwC_v hl z (by omega) (by omega)
      have e4 : lwC l L T (4 + m) = T (4 + m) := lwC_v hl z (by omega) (by omega)
      have e6 : lwC l L T (6 + m) = T (6 + m) := lwC_v hl z (by omega) (by omega)
      unfold WQ
      rw [e2, e4, e6, lwC_280 hl]
      rcases w with w | ⟨w1, w2, w3, K, w4, w5, w6⟩
      · exact Or.inl w
      · refine Or.inr ⟨w1, w2, by omega, K, w4, w5, fun i hi => ?_⟩
        rw [lwC_v hl z (by omega) (by omega)]; exact w6 i hi
    rcases (show l = 0 ∨ l = 1 by omega) with rfl | rfl
    · exact ⟨own, oth 1 (by decide) (by decide) h3.2⟩
    · exact ⟨oth 0 (by decide) (by decide) h3.1, own⟩
  · refine ⟨by rw [lwC_280 hl]; omega, ?_, ?_, ?_, ?_, ?_⟩
    · rw [lwC_v hl z (by omega) (by omega)]; exact h4.2.1
    · rw [lwC_v hl z (by omega) (by omega)]; exact h4.2.2.1
    · rw [lwC_v hl z (by omega) (by omega)]; exact h4.2.2.2.1
    · rw [lwC_v hl z (by omega) (by omega)]; exact h4.2.2.2.2.1
    · rw [lwC_v hl z (by omega) (by omega)]; exact h4.2.2.2.2.2
theorem ex_r {t i : Int} (h : (exP f n t i).1 = 0) : (exP f n t i).2.2 = nxF f n i := by
  have a := exP_s f n t i
  have b := flP_s f n i 2
  omega
/-- a line -/
theorem rw_li {k b i : Int} {T : Nat → Int} (h : RWQ T) (hk : k = T 26 ∧ b = T 1) (hp : (liP f n k b i).1 = 0) : RWQ (liC f n k b i T) ∧ liC f n k b i T 26 = inc (tkF f n i) 1003 k ∧ liC f n k b i T 1 = inc (tkF f n i) 1009 b := by
  obtain ⟨h1, h2, h3, h4⟩ := h
  have i1 := inc_s (tkF f n i) 1003 k
  have i2 := inc_s (tkF f n i) 1009 b
  unfold liC
  unfold liP at hp
  by_cases t1 : tkF f n i = 1003
  · rw [if_pos t1] at hp ⊢
    obtain ⟨k8, q⟩ := kq_ki f n h1 hk.1 hp
    have k0 := h1.1.1
    have o : ∀ j : Nat, j < 26 ∨ (28 < j ∧ j < 33) ∨ 49 ≤ j → kiC f n k i T j = T j := fun j hj => kiC_o f n (by omega) hj
    refine ⟨⟨q, bq_o h2 (fun j hj => o j (by omega)), ⟨wq_o (by decide) h3.1 (fun j hj => o j (by omega)), wq_o (by decide) h3.2 (fun j hj => o j (by omega))⟩, zq_o h4 (fun j hj => o j (by omega))⟩, ?_, ?_⟩
    · have : kiC f n k i T 26 = k + 1 := by
        unfold kiC; rw [fgT_o f n (by omega) (by omega)]; unfold kiB; exact uT_s
      omega
    · rw [o 1 (by omega)]; omega
  · rw [if_neg t1] at hp ⊢
    by_cases t2 : tkF f n i = 1009
    · rw [if_pos t2] at hp ⊢
      obtain ⟨b6, q⟩ := bq_bu f n h2 hk.2 hp
      have b0 := h2.1
      have o : ∀ j : Nat, j = 0 ∨ (1 < j ∧ j < 8) ∨ 26 ≤ j → buC f n b i T j = T j := fun j hj => buC_o f n (by omega) hj
      refine ⟨⟨kq_o h1 (fun j a c => o j (by omega)), q, ⟨wq_o (by decide) h3.1 (fun j hj => o j (by omega)), wq_o (by decide) h3.2 (fun j hj => o j (by omega))⟩, zq_o h4 (fun j hj => o j (by omega))⟩, ?_, ?_⟩
      · rw [o 26 (by omega)]; omega
      · have : buC f n b i T 1 = b + 1 := by
          unfold buC; rw [mkT_o f n (by omega)]; unfold buB; exact uT_s
        omega
    · rw [if_neg t2] at hp ⊢
      by_cases t3 : tkF f n i = 1010
      · rw [if_pos t3] at hp ⊢
        have q := sq_0 hp
        have e := ex_r f n q.1
        have nn := nx_0 f n (nxF f n i)
        have g : GLQ 0 (sLR f n 6 (exP f n 2058 (nxF f n i)).2.2) := ⟨⟨(sLR_x f n 6 _ (by omega) q.2).m (by decide), sLR_v f n 6 _ (by omega) q.2⟩, fun z => absurd z (by decide)⟩
        refine ⟨rw_lw (by decide) ⟨h1, h2, h3, h4⟩ g, ?_, ?_⟩
        · show lwC 0 _ T 26 = _
          rw [lwC_v (by decide) h4.1 (by decide) (Or.inl (by decide))]; omega
        · show lwC 0 _ T 1 = _
          rw [lwC_v (by decide) h4.1 (by decide) (Or.inl (by decide))]; omega
      · rw [if_neg t3] at hp ⊢
        by_cases t4 : tkF f n i = 1011
        · rw [if_pos t4] at hp ⊢
          have q := sq_0 hp
          have e := ex_r f n q.1
          have nn := nx_0 f n (nxF f n i)
          have g : GLQ 1 (trL f n (unR f n 6) (uLR f n 6) (exP f n 2058 (nxF f n i)).2.2) := ⟨⟨(tr_x f n (m := 4 + 2 * ((6 : Nat) : Int)) (by decide) (fun j hj z => uLR_x f n 6 j hj z) _ (by omega) q.2).m (by decide), va_b (tr_v f n (fun j hj z => uLR_v f n 6 j hj z) _ (by omega) q.2)⟩, fun _ => tr_v f n (fun j hj z => uLR_v f n 6 j hj z) _ (by omega) q.2⟩
          refine ⟨rw_lw (by decide) ⟨h1, h2, h3, h4⟩ g, ?_, ?_⟩
          · show lwC 1 _ T 26 = _
            rw [lwC_v (by decide) h4.1 (by decide) (Or.inl (by decide))]; omega
          · show lwC 1 _ T 1 = _
            rw [lwC_v (by decide) h4.1 (by decide) (Or.inl (by decide))]; omega
        · rw [if_neg t4] at hp; exact absurd hp (fa_0 f n (by decide))
theorem rw_0 {T : Nat → Int} (h : RWQ T) (v : Int) : RWQ (uT T 0 v) := by
  have o : ∀ j : Nat, j ≠ 0 → uT T 0 v j = T j := fun j hj => uT_o hj
  exact ⟨kq_o h.1 (fun j a b => o j (by omega)), bq_o h.2.1 (fun j hj => o j (by omega)), ⟨wq_o (by decide) h.2.2.1.1 (fun j hj => o j (by omega)), wq_o (by decide) h.2.2.1.2 (fun j hj => o j (by omega))⟩, zq_o h.2.2.2 (fun j hj => o j (by omega))⟩
theorem rw_mn : ∀ (m : Nat) (i k b : Int) (T : Nat → Int), RWQ T → k = T 26 ∧ b = T 1 → RWQ (mnC f n m i k b T)
  | 0, _, _, _, _, h, _ => h
  | m + 1, i, k, b, T, h, hk => by
    rw [mnC]
    by_cases z : tkF f n i = 3001
    · rw [if_pos z]; exact h
    · rw [if_neg z]
      by_cases y : (lnP f n k b i).1 = 0
      · rw [if_pos y]
        obtain ⟨a, c, d⟩ := rw_li f n h hk (sq_0 y).1
        refine rw_mn m _ _ _ _ (rw_0 a _) ⟨?_, ?_⟩
        · show _ = uT _ 0 _ 26; rw [uT_o (by decide)]; exact c.symm
        · show _ = uT _ 0 _ 1; rw [uT_o (by decide)]; exact d.symm
      · rw [if_neg y]; exact h
/-- a told shop's row -/
theorem rw_rd : RWQ (rdC f n) := rw_mn f n _ _ _ _ T0 ⟨⟨⟨by decide, fun k h1 h2 => absurd (show k < 0 from h2) (by omega)⟩, by decide, by decide⟩, ⟨by decide, fun k h1 h2 => absurd (show k < 0 from h2) (by omega)⟩, ⟨Or.inl rfl, Or.inl rfl⟩, by decide, rfl, rfl, rfl, rfl, rfl⟩ ⟨rfl, rfl⟩
end RP
/-! a list of codes as it stands in a row -/
theorem dq_l {f : Nat → Int32} {o : Int} : ∀ (L : List Int) (a : Nat), (∀ i : Nat, i < L.length → (f (o + ((a + i : Nat) : Int)).toNat).toInt = L.getD i 0) → dqF f o (a + L.length) = dpL L (dqF f o a)
  | [], _, _ => rfl
  | c :: L, a, h => by
    have c0 : (f (o + ((a : Nat) : Int)).toNat).toInt = c := h 0 (by simp)
    have e : dqF f o (a + 1) = dpS c (dqF f o a) := by rw [dqF, c0]; rfl
    have := dq_l (f := f) (o := o) L (a + 1) (fun i hi => by have := h (i + 1) (by simpa using hi); rw [show a + 1 + i = a + (i + 1) by omega]; rw [this]; rfl)
    rw [e] at this
    rw [show a + (c :: L).length = a + 1 + L.length by simp; omega, this]
    rfl
theorem ok_l {f : Nat → Int32} {o B : Int} : ∀ (L : List Int) (a : Nat), (∀ i : Nat, i < L.length → (f (o + ((a + i : Nat) : Int)).toNat).toInt = L.getD i 0) → okL B L (dqF f o a) → ∀ i : Nat, i < L.length → okc (f (o + ((a + i : Nat) : Int)).toNat).toInt (dqF f o (a + i)) ∧ dqF f o (a + i + 1) ≤ B
  | [], _, _, _, i, hi => absurd hi (by simp)
  | c :: L, a, h, k, i, hi => by
    have c0 : (f (o + ((a : Nat) : Int)).toNat).toInt = c := h 0 (by simp)
    have e : dqF f o (a + 1) = dpS c (dqF f o a) := by rw [dqF, c0]; rfl
    cases i with
    | zero => exact ⟨by rw [show a + 0 = a from rfl, c0]; exact k.1, by rw [show a + 0 + 1 = a + 1 from rfl, e]; exact k.2.1⟩
    | succ i =>
      have := ok_l (f := f) (o := o) (B := B) L (a + 1) (fun i hi => by have := h (i + 1) (by simpa using hi); rw [show a + 1 + i = a + (i + 1) by omega]; rw [this]; rfl) (by rw [e]; exact k.2.2) i (by simpa using hi)
      rw [show a + 1 + i = a + (i + 1) by omega] at this
      exact this
theorem rk_l {f : Nat → Int32} {W : Nat → Int} {o : Int} : ∀ (L : List Int) (a : Nat), (∀ i : Nat, i < L.length → (f (o + ((a + i : Nat) : Int)).toNat).toInt = L.getD i 0) → rkS f W o (a + L.length) = rkL W L (rkS f W o a)
  | [], _, _ => rfl
  | c :: L, a, h => by
    have c0 : (f (o + ((a : Nat) : Int)).toNat).toInt = c := h 0 (by simp)
    have e : rkS f W o (a + 1) = rkT W c (rkS f W o a) := by rw [rkS, c0]
    have := rk_l (f := f) (W := W) (o := o) L (a + 1) (fun i hi => by have := h (i + 1) (by simpa using hi); rw [show a + 1 + i = a + (i + 1) by omega]; rw [this]; rfl)
    rw [e] at this
    rw [show a + (c :: L).length = a + 1 + L.length by simp; omega, this]
    rfl
theorem cw_l {f : Nat → Int32} {o m : Int} {L : List Int} (h : ∀ i : Nat, i < L.length → (f (o + (i : Int)).toNat).toInt = L.getD i 0) (g : EXQ m L) (hm : m ≤ 64) : zwS f o (L.length : Int) ∧ (∀ i : Nat, (i : Int) ≤ (L.length : Int) → dqF f o i ≤ 64) ∧ dqF f o ((L.length : Int)).toNat = 1 := by
  have h' : ∀ i : Nat, i < L.length → (f (o + ((0 + i : Nat) : Int)).toNat).toInt = L.getD i 0 := fun i hi => by rw [Nat.zero_add]; exact h i hi
  obtain ⟨a, b⟩ := g 0 64 (by decide) (by omega)
  have k := ok_l (f := f) (o := o) (B := 64) L 0 h' a
  refine ⟨fun i hi => ?_, fun i hi => ?_, ?_⟩
  · have := (k i (by omega)).1
    rw [Nat.zero_add] at this; exact this
  · cases i with
    | zero => rw [show dqF f o 0 = 0 from rfl]; decide
    | succ i =>
      have := (k i (by omega)).2
      rw [Nat.zero_add] at this; exact this
  · have := dq_l (f := f) (o := o) L 0 h'
    rw [Nat.zero_add] at this
    rw [Int.toNat_natCast, this, show dqF f o 0 = 0 from rfl, b]
    rfl
theorem bt_l {f : Nat → Int32} {o : Int} {L : List Int} (h : ∀ i : Nat, i < L.length → (f (o + (i : Int)).toNat).toInt = L.getD i 0) (g : VBQ L) (W : Nat → Int) : bitQ ((rkS f W o ((L.length : Nat) : Int).toNat).2 0) := by
  have := rk_l (f := f) (W := W) (o := o) L 0 (fun i hi => by rw [Nat.zero_add]; exact h i hi)
  rw [Nat.zero_add] at this
  rw [Int.toNat_natCast, this]
  exact (g W (rkS f W o 0) (by rw [show rkS f W o 0 = (0, fun _ => 0) from rfl]; exact Int.le_refl 0)).2.2
end
section
/-! ROWS ALIKE: two rows tell the same shop -/
def EQL (g f : Nat → Int32) (l : Nat) : Prop := ((g (2 + l)).toInt = 0 ↔ (f (2 + l)).toInt = 0) ∧ (¬ (f (2 + l)).toInt = 0 → g (4 + l) = f (4 + l) ∧ g (6 + l) = f (6 + l) ∧ ∀ i : Nat, (i : Int) < (f (6 + l)).toInt → g (281 + (f (4 + l)).toInt + (i : Int)).toNat = f (281 + (f (4 + l)).toInt + (i : Int)).toNat)
def EQB (g f : Nat → Int32) (b : Int) : Prop := g (8 + b).toNat = f (8 + b).toNat ∧ g (14 + b).toNat = f (14 + b).toNat ∧ g (20 + b).toNat = f (20 + b).toNat
def EQK (g f : Nat → Int32) (k : Int) : Prop := g (33 + k).toNat = f (33 + k).toNat ∧ g (41 + k).toNat = f (41 + k).toNat
def EQP (g f : Nat → Int32) : Prop := g 0 = f 0 ∧ g 1 = f 1 ∧ (∀ b : Int, 0 ≤ b → b < (f 1).toInt → EQB g f b) ∧ EQL g f 0 ∧ EQL g f 1
def EQS (g f : Nat → Int32) : Prop := (g 26 = f 26 ∧ g 27 = f 27 ∧ g 28 = f 28 ∧ g 29 = f 29 ∧ g 30 = f 30 ∧ g 32 = f 32) ∧ ∀ k : Int, 0 ≤ k → k < (f 26).toInt → EQK g f k
theorem rkS_c {f g : Nat → Int32} {W : Nat → Int} {o : Int} : ∀ {n : Nat}, (∀ i : Nat, i < n → g (o + (i : Int)).toNat = f (o + (i : Int)).toNat) → rkS g W o n = rkS f W o n
  | 0, _ => rfl
  | n + 1, h => by rw [rkS, rkS, rkS_c (n := n) (fun i hi => h i (by omega)), h n (by omega)]
theorem wd_c {f g : Nat → Int32} {b k : Int} (hb : EQB g f b) (hk : EQK g f k) (s : Int) : wdF g b k s = wdF f b k s := by
  funext j
  unfold wdF
  rw [hb.1, hb.2.1, hk.1, hk.2]
theorem rk_c {f g : Nat → Int32} {l : Nat} {b k : Int} (hl : EQL g f l) (ht : ¬ (f (2 + l)).toInt = 0) (hb : EQB g f b) (hk : EQK g f k) (s : Int) : rkF g l b k s = rkF f l b k s := by
  obtain ⟨h1, h2, h3⟩ := hl.2 ht
  unfold rkF
  rw [wd_c hb hk, h1, h2, rkS_c (fun i hi => h3 i (by omega))]
theorem wt_c {f g : Nat → Int32} {b k : Int} (hl : EQL g f 0) (hb : EQB g f b) (hk : EQK g f k) (s : Int) : wtF g b k s = wtF f b k s := by
  unfold wtF
  by_cases z : (f 2).toInt = 0
  · rw [if_pos z, if_pos (hl.1.mpr z), hb.1, hk.1]
  · rw [if_neg z, if_neg (fun y => z (hl.1.mp y)), rk_c hl z hb hk]
theorem mb_c {f g : Nat → Int32} {b k : Int} (h28 : g 28 = f 28) (hl : EQL g f 1) (hb : EQB g f b) (hk : EQK g f k) (s : Int) : mbF g b k s = mbF f b k s := by
  unfold mbF
  have e : (iiF (g 28).toInt k = 0 ∧ (g (33 + k).toNat).toInt ≤ (g (8 + b).toNat).toInt ∧ ((g 3).toInt = 0 ∨ rkF g 1 b k s = 1)) ↔ (iiF (f 28).toInt k = 0 ∧ (f (33 + k).toNat).toInt ≤ (f (8 + b).toNat).toInt ∧ ((f 3).toInt = 0 ∨ rkF f 1 b k s = 1)) := by
    rw [h28, hb.1, hk.1]
    by_cases z : (f 3).toInt = 0
    · have y := hl.1.mpr z
      have y : (g 3).toInt = 0 := y
      simp [z, y]
    · have y : ¬ (g 3).toInt = 0 := fun y => z (hl.1.mp y)
      rw [rk_c hl z hb hk]
      simp [z, y]
  by_cases z : (iiF (f 28).toInt k = 0 ∧ (f (33 + k).toNat).toInt ≤ (f (8 + b).toNat).toInt ∧ ((f 3).toInt = 0 ∨ rkF f 1 b k s = 1))
  · rw [if_pos z, if_pos (e.mpr z)]
  · rw [if_neg z, if_neg (fun y => z (e.mp y))]
theorem sh_c {f g : Nat → Int32} (h26 : g 26 = f 26) (h28 : g 28 = f 28) (s : Int) : shF g s = shF f s := by
  unfold shF snF evF
  rw [h26, h28]
theorem boS_c {f g : Nat → Int32} {b : Int} (s : Int) (h26 : g 26 = f 26) (h28 : g 28 = f 28) (hl0 : EQL g f 0) (hl1 : EQL g f 1) (hb : EQB g f b) (hk : ∀ k : Int, 0 ≤ k → k < (f 26).toInt → EQK g f k) : ∀ n : Nat, (n : Int) ≤ (f 26).toInt → boS g b s n = boS f b s n
  | 0, _ => rfl
  | n + 1, h => by
    have q := hk (n : Int) (by omega) (by omega)
    rw [boS, boS, boS_c s h26 h28 hl0 hl1 hb hk n (by omega)]
    unfold boT
    rw [sh_c h26 h28, mb_c h28 hl1 hb q, wt_c hl0 hb q]
theorem bo_c {f g : Nat → Int32} {b : Int} (s : Int) (h26 : g 26 = f 26) (h28 : g 28 = f 28) (hl0 : EQL g f 0) (hl1 : EQL g f 1) (hb : EQB g f b) (hk : ∀ k : Int, 0 ≤ k → k < (f 26).toInt → EQK g f k) : boF g b s = boF f b s := by
  unfold boF
  rw [h26]
  by_cases z : 0 ≤ (f 26).toInt
  · rw [boS_c s h26 h28 hl0 hl1 hb hk _ (by omega)]
  · rw [show (f 26).toInt.toNat = 0 by omega]; rfl
/-- what a buyer would buy is the same -/
theorem bo_eq {f g : Nat → Int32} {b : Int} (hp : EQP g f) (hs : EQS g f) (hb : 0 ≤ b ∧ b < (f 1).toInt) (s : Int) : boF g b s = boF f b s := bo_c s hs.1.1 hs.1.2.2.1 hp.2.2.2.1 hp.2.2.2.2 (hp.2.2.1 b hb.1 hb.2) hs.2
theorem wt_eq {f g : Nat → Int32} {b k : Int} (hp : EQP g f) (hs : EQS g f) (hb : 0 ≤ b ∧ b < (f 1).toInt) (hk : 0 ≤ k ∧ k < (f 26).toInt) (s : Int) : wtF g b k s = wtF f b k s := wt_c hp.2.2.2.1 (hp.2.2.1 b hb.1 hb.2) (hs.2 k hk.1 hk.2) s
theorem mb_eq {f g : Nat → Int32} {b k : Int} (hp : EQP g f) (hs : EQS g f) (hb : 0 ≤ b ∧ b < (f 1).toInt) (hk : 0 ≤ k ∧ k < (f 26).toInt) (s : Int) : mbF g b k s = mbF f b k s := mb_c hs.1.2.2.1 hp.2.2.2.2 (hp.2.2.1 b hb.1 hb.2) (hs.2 k hk.1 hk.2) s
/-! THE CLASS'S ROW: plan p, stock v, hidden h, in the reference's order -/
def clX (M : mm_M) (p v : Nat) (h : Int32) (j : Nat) : Int32 :=
  if j = 0 then M.1 p 1 else if j = 1 then M.1 p 0
  else if j = 2 then (if M.1 p 7 = M.1 p 8 then 0 else 1) else if j = 3 then (if M.1 p 9 = M.1 p 10 then 0 else 1)
  else if j = 4 then M.1 p 7 else if j = 5 then M.1 p 9 else if j = 6 then M.1 p 8 - M.1 p 7 else if j = 7 then M.1 p 10 - M.1 p 9
  else if j < 14 then M.1 (s_p0 p 2) (j - 8) else if j < 20 then M.1 (s_p0 p 3) (j - 14) else if j < 26 then M.1 (s_p0 p 4) (j - 20)
  else if j = 26 then M.1 v 0 else if j = 27 then M.1 v 3 else if j = 28 then h else if j = 29 then M.1 v 5 else if j = 30 then M.1 v 6 else if j = 31 then M.1 v 7 else if j = 32 then M.1 v 8
  else if j < 41 then M.1 (s_p0 v 1) (j - 33) else if j < 49 then M.1 (s_p0 v 2) (j - 41)
  else if j < 281 then 0 else sI (cmF (M.1 (s_p0 p 5) (j - 281)).toInt)
/-- the same, as the class's Minds have it -/
def mdX (M : mm_M) (p : Nat) (h : Int32) (j : Nat) : Int32 :=
  if j = 26 then M.1 81 6 else if 33 ≤ j ∧ j < 41 then M.1 83 (j - 33) else if 41 ≤ j ∧ j < 49 then M.1 84 (j - 41) else clX M p 12 h j
/-! an appetite: how much a kind is wanted, 0 if it won't be bought; o how many are gone, w whether it was sold -/
def wdO (f : Nat → Int32) (b k o w : Int) (j : Nat) : Int := if j = 0 then b else if j = 1 then (f (8 + b).toNat).toInt else if j = 2 then (f (14 + b).toNat).toInt else if j = 3 then k else if j = 4 then (f (33 + k).toNat).toInt else if j = 5 then (f (41 + k).toNat).toInt else if j = 6 then o else w
theorem wdO_e (f : Nat → Int32) (b k s : Int) : wdF f b k s = wdO f b k (bsF s (8 : Int).toNat) (andI (shrI s k) 1) := by funext j; rfl
def rkO (f : Nat → Int32) (l : Nat) (b k o w : Int) : Int := (rkS f (wdO f b k o w) (281 + (f (4 + l)).toInt) (f (6 + l)).toInt.toNat).2 0
theorem rkO_e (f : Nat → Int32) (l : Nat) (b k s : Int) : rkF f l b k s = rkO f l b k (bsF s (8 : Int).toNat) (andI (shrI s k) 1) := by unfold rkF rkO; rw [wdO_e]
def wtO (f : Nat → Int32) (b k o w : Int) : Int := if (f 2).toInt = 0 then subI (f (8 + b).toNat).toInt (f (33 + k).toNat).toInt else rkO f 0 b k o w
def ltO (f : Nat → Int32) (b k o w : Int) : Int := if (f (33 + k).toNat).toInt ≤ (f (8 + b).toNat).toInt ∧ ((f 3).toInt = 0 ∨ ¬ rkO f 1 b k o w = 0) then 1 else 0
def apO (f : Nat → Int32) (b k o w : Int) : Int := if ltO f b k o w = 1 then (if 0 ≤ wtO f b k o w then wtO f b k o w else 0) else 0
/-- the class's loop over the kinds is the reference's -/
theorem bo_ap (f : Nat → Int32) (b k s : Int) (hk : 0 ≤ k) (hbit : (f 3).toInt = 0 ∨ bitQ (rkF f 1 b k s)) (h0 : 0 ≤ (boS f b s k.toNat).2) (hsh : ¬ shF f s = 1) : ((iiF (f 28).toInt k = 0 ∧ (boS f b s k.toNat).2 < apO f b k (bsF s (8 : Int).toNat) (andI (shrI s k) 1)) ∧ (boS f b s (k + 1).toNat).1 = k ∧ (boS f b s (k + 1).toNat).2 = apO f b k (bsF s (8 : Int).toNat) (andI (shrI s k) 1)) ∨ (¬ (iiF (f 28).toInt k = 0 ∧ (boS f b s k.toNat).2 < apO f b k (bsF s (8 : Int).toNat) (andI (shrI s k) 1)) ∧ (boS f b s (k + 1).toNat).1 = (boS f b s k.toNat).1 ∧ (boS f b s (k + 1).toNat).2 = (boS f b s k.toNat).2) := by
  have w : wtF f b k s = wtO f b k (bsF s (8 : Int).toNat) (andI (shrI s k) 1) := by unfold wtF wtO; rw [rkO_e]
  have st := bo_step f b s k hk
  dsimp only at st
  have ms := mbF_s f b k s
  have hm : mbF f b k s = 1 ↔ (iiF (f 28).toInt k = 0 ∧ ltO f b k (bsF s (8 : Int).toNat) (andI (shrI s k) 1) = 1) := by
    unfold ltO
    rw [← rkO_e]
    by_cases c : (f (33 + k).toNat).toInt ≤ (f (8 + b).toNat).toInt ∧ ((f 3).toInt = 0 ∨ ¬ rkF f 1 b k s = 0)
    · rw [if_pos c]
      rcases ms with ⟨m1, m2⟩ | ⟨m1, m2⟩
      · exact ⟨fun _ => ⟨m1.1, rfl⟩, fun _ => m2⟩
      · refine ⟨fun z => by omega, fun z => ?_⟩
        exfalso
        refine m1 ⟨z.1, c.1, ?_⟩
        rcases c.2 with q | q
        · exact Or.inl q
        · rcases hbit with y | y
          · exact Or.inl y
          · rcases y with y | y
            · exact absurd y q
            · exact Or.inr y
    · rw [if_neg c]
      rcases ms with ⟨m1, m2⟩ | ⟨m1, m2⟩
      · exfalso
        refine c ⟨m1.2.1, ?_⟩
        rcases m1.2.2 with q | q
        · exact Or.inl q
        · exact Or.inr (by omega)
      · exact ⟨fun z => by omega, fun z => by omega⟩
  have m01 : mbF f b k s = 1 ∨ mbF f b k s = 0 := by rcases ms with ⟨_, q⟩ | ⟨_, q⟩ <;> omega
  have ii := iiF_s (f 28).toInt k
  generalize hA : apO f b k (bsF s (8 : Int).toNat) (andI (shrI s k) 1) = A
  unfold apO at hA
  rw [← w] at hA
  generalize ltO f b k (bsF s (8 : Int).toNat) (andI (shrI s k) 1) = lt at hA hm
  generalize wtF f b k s = wt at st hA
  have hA2 : (lt = 1 ∧ 0 ≤ wt ∧ A = wt) ∨ (lt = 1 ∧ wt < 0 ∧ A = 0) ∨ (¬ lt = 1 ∧ A = 0) := by
    by_cases z : lt = 1
    · rw [if_pos z] at hA
      by_cases y : 0 ≤ wt
      · rw [if_pos y] at hA; exact Or.inl ⟨z, y, hA.symm⟩
      · rw [if_neg y] at hA; exact Or.inr (Or.inl ⟨z, by omega, hA.symm⟩)
    · rw [if_neg z] at hA; exact Or.inr (Or.inr ⟨z, hA.symm⟩)
  rcases m01 with m | m
  · obtain ⟨x, y⟩ := hm.mp m
    rcases st with st | st | st | st | st
    · exact absurd st hsh
    · omega
    · omega
    · left; exact ⟨⟨x, by omega⟩, by omega, by omega⟩
    · right; exact ⟨fun z => by omega, by omega, by omega⟩
  · have no : ¬ (iiF (f 28).toInt k = 0 ∧ lt = 1) := fun z => by have := hm.mpr z; omega
    rcases st with st | st | st | st | st
    · exact absurd st hsh
    · omega
    · right; exact ⟨fun z => no ⟨z.1, by omega⟩, by omega, by omega⟩
    · omega
    · omega
end
section
/-! THE CLASS'S MINDS, exact -/
/-- cells that are as they were: all but S -/
def FX (S : List Nat) (M N : mm_M) : Prop := (∀ i k, i ∉ S → N.1 i k = M.1 i k) ∧ (∀ i k, i ∉ S → N.2.2 i k = M.2.2 i k) ∧ ∀ i k, i ∉ S → N.2.1 i k = M.2.1 i k
theorem FX.rf {S : List Nat} {M : mm_M} : FX S M M := ⟨fun _ _ _ => rfl, fun _ _ _ => rfl, fun _ _ _ => rfl⟩
theorem FX.cell {S : List Nat} {M N : mm_M} (h : FX S M N) {i : Nat} (hi : i ∉ S) : N.1 i = M.1 i := funext fun k => h.1 i k hi
theorem FX.wI {S : List Nat} {M N N' : mm_M} {i k : Nat} {v : Int32} (h : FX S M N) (e : N' = wI N i k v) (hi : i ∈ S) : FX S M N' := by
  subst e
  refine ⟨fun a b ha => ?_, h.2.1, h.2.2⟩
  have : a ≠ i := fun z => ha (z ▸ hi)
  show u2 N.1 i k v a b = _
  rw [u2_a _ _ this]; exact h.1 a b ha
theorem FX.wJ {S : List Nat} {M N N' : mm_M} {i k : Nat} {v : Int64} (h : FX S M N) (e : N' = wJ N i k v) (hi : i ∈ S) : FX S M N' := by
  subst e
  refine ⟨h.1, h.2.1, fun a b ha => ?_⟩
  have : a ≠ i := fun z => ha (z ▸ hi)
  show u2 N.2.1 i k v a b = _
  rw [u2_a _ _ this]; exact h.2.2 a b ha
theorem FX.wP {S : List Nat} {M N N' : mm_M} {i k v : Nat} (h : FX S M N) (e : N' = wP N i k v) (hi : i ∈ S) : FX S M N' := by
  subst e
  refine ⟨h.1, fun a b ha => ?_, h.2.2⟩
  have : a ≠ i := fun z => ha (z ▸ hi)
  show u2 N.2.2 i k v a b = _
  rw [u2_a _ _ this]; exact h.2.1 a b ha
theorem FX.tr {S T : List Nat} {M N N' : mm_M} (h : FX S M N) (h2 : FX T N N') (ht : ∀ x ∈ T, x ∈ S) : FX S M N' :=
  ⟨fun i k hi => (h2.1 i k (fun z => hi (ht i z))).trans (h.1 i k hi), fun i k hi => (h2.2.1 i k (fun z => hi (ht i z))).trans (h.2.1 i k hi), fun i k hi => (h2.2.2 i k (fun z => hi (ht i z))).trans (h.2.2 i k hi)⟩
theorem s_fX {S : List Nat} {M M' : mm_M} {a b : Nat} {z : Int} (e : FX S M M') (h : a ∉ S) (q : z = (M'.1 a b).toInt) : z = (M.1 a b).toInt := by rw [q, e.1 a b h]
theorem s_gX {S : List Nat} {M M' : mm_M} {a b : Nat} {z : Int} (e : FX S M M') (h : a ∉ S) (q : z = (M'.2.1 a b).toInt) : z = (M.2.1 a b).toInt := by rw [q, e.2.2 a b h]
theorem s_pX {S : List Nat} {M M' : mm_M} {a b z : Nat} (e : FX S M M') (q : z = M.2.2 a b) (h : a ∉ S := by decide) : z = M'.2.2 a b := by rw [q, e.2.1 a b h]
theorem cmF_s (c : Int) : (c < 1008 ∧ cmF c = c) ∨ (1008 ≤ c ∧ ((c = 2043 ∧ cmF c = 3000) ∨ (c = 2045 ∧ cmF c = 3001) ∨ (c = 2042 ∧ cmF c = 3002) ∨ (c = 2061 ∧ cmF c = 3003) ∨ (c = 2060 ∧ cmF c = 3004) ∨ (c = 2062 ∧ cmF c = 3005) ∨ (c = 1016 ∧ cmF c = 3006) ∨ (c = 1015 ∧ cmF c = 3007) ∨ ((¬ c = 2043 ∧ ¬ c = 2045 ∧ ¬ c = 2042 ∧ ¬ c = 2061 ∧ ¬ c = 2060 ∧ ¬ c = 2062 ∧ ¬ c = 1016 ∧ ¬ c = 1015) ∧ cmF c = 3008))) := by
  unfold cmF
  (repeat' split) <;> omega
theorem cm_r {c : Int} (h : -2147483648 ≤ c ∧ c ≤ 2147483647) : -2147483648 ≤ cmF c ∧ cmF c ≤ 2147483647 := by
  have := cmF_s c
  omega
theorem jw_and {a b : Int} (ha : -2147483648 ≤ a ∧ a ≤ 2147483647) (hb : -2147483648 ≤ b ∧ b ≤ 2147483647) : w32 (andJ a b) = andI a b := by
  unfold w32 andJ andI
  have e1 : sJ a = (sI a).toInt64 := by
    apply Int64.toInt_inj.mp
    rw [sJ_t (by omega), Int32.toInt_toInt64, sI_t ha]
  have e2 : sJ b = (sI b).toInt64 := by
    apply Int64.toInt_inj.mp
    rw [sJ_t (by omega), Int32.toInt_toInt64, sI_t hb]
  rw [e1, e2, ← Int32.toInt64_and, Int32.toInt_toInt64, sI_o]
theorem jw_or {a b : Int} (ha : -2147483648 ≤ a ∧ a ≤ 2147483647) (hb : -2147483648 ≤ b ∧ b ≤ 2147483647) : w32 (orJ a b) = orI a b := by
  unfold w32 orJ orI
  have e1 : sJ a = (sI a).toInt64 := by
    apply Int64.toInt_inj.mp
    rw [sJ_t (by omega), Int32.toInt_toInt64, sI_t ha]
  have e2 : sJ b = (sI b).toInt64 := by
    apply Int64.toInt_inj.mp
    rw [sJ_t (by omega), Int32.toInt_toInt64, sI_t hb]
  rw [e1, e2, ← Int32.toInt64_or, Int32.toInt_toInt64, sI_o]
theorem w32_x {a : Int} (h : -2147483648 ≤ a ∧ a ≤ 2147483647) : w32 a = a := by unfold w32; exact sI_t h
/-! bitCount -/
def bcE (x : Int32) : Int32 :=
  let u (x : Int32) (y : Int32) : Int32 := (x.toUInt32 >>> (y.toUInt32 &&& Int32.toUInt32 31)).toInt32
  let x1 := x - (u x (sI 1) &&& sI 1431655765)
  let x2 := (x1 &&& sI 858993459) + (u x1 (sI 2) &&& sI 858993459)
  let x3 := (x2 + u x2 (sI 4)) &&& sI 252645135
  let x4 := x3 + u x3 (sI 8)
  let x5 := x4 + u x4 (sI 16)
  x5 &&& sI 63
theorem bc_n : ∀ n : Nat, n < 256 → bcE (sI (n : Int)) = sI (bsF (n : Int) (8 : Int).toNat) ∧ 0 ≤ bsF (n : Int) (8 : Int).toNat ∧ bsF (n : Int) (8 : Int).toNat ≤ 8 := by decide +kernel
theorem bc_e (a : Int) (h : 0 ≤ a ∧ a ≤ 255) : bcE (sI a) = sI (bsF a (8 : Int).toNat) := by
  have := (bc_n a.toNat (by omega)).1
  rw [show ((a.toNat : Nat) : Int) = a by omega] at this; exact this
theorem bs_b (a : Int) (h : 0 ≤ a ∧ a ≤ 255) : 0 ≤ bsF a (8 : Int).toNat ∧ bsF a (8 : Int).toNat ≤ 8 := by
  have := (bc_n a.toNat (by omega)).2
  rw [show ((a.toNat : Nat) : Int) = a by omega] at this; exact this
/-- a law's code is well formed, its stack at most 64 deep, one value at its end -/
def CWX (f : Nat → Int32) (o n : Int) : Prop := zwS f o n ∧ (∀ i : Nat, (i : Int) ≤ n → dqF f o i ≤ 64) ∧ dqF f o n.toNat = 1
def stX (M : mm_M) (p : Int × (Nat → Int)) : Prop := ∀ j : Nat, (j : Int) < p.1 → (M.1 86 j).toInt = p.2 j
def fcX (M : mm_M) (j : Nat) : Int := (M.1 85 j).toInt
theorem cwx_at {f : Nat → Int32} {o n i i' x : Int} (W : Nat → Int) (h : b01 (CWX f o n) = 1) (h0 : 0 ≤ i ∧ i < n) (hx : x = o + i) (hi : i' = i + 1) : (((f x.toNat).toInt < 3000 ∧ 0 ≤ (f x.toNat).toInt ∧ (f x.toNat).toInt ≤ 1007 ∧ (rkS f W o i'.toNat).1 = (rkS f W o i.toNat).1 + 1) ∨ ((f x.toNat).toInt = 3006 ∧ 1 ≤ (rkS f W o i.toNat).1 ∧ (rkS f W o i'.toNat).1 = (rkS f W o i.toNat).1) ∨ (3000 ≤ (f x.toNat).toInt ∧ ¬ (f x.toNat).toInt = 3006 ∧ 2 ≤ (rkS f W o i.toNat).1 ∧ (rkS f W o i'.toNat).1 = (rkS f W o i.toNat).1 - 1)) ∧ (rkS f W o i'.toNat).1 ≤ 64 := by
  subst hx hi
  obtain ⟨z, q, _⟩ := b01_e h
  have a := rk_at W z i h0.1 h0.2
  dsimp only at a
  refine ⟨a, ?_⟩
  rw [rkS_1]
  exact q _ (by omega)
theorem md_c (M : mm_M) (p : Nat) (h : Int32) {x : Int} (hx : 0 ≤ x) : (mdX M p h (281 + x).toNat).toInt = cmF (M.1 (s_p0 p 5) x.toNat).toInt := by
  unfold mdX clX
  rw [if_neg (by omega), if_neg (by omega), if_neg (by omega)]
  rw [if_neg (by omega), if_neg (by omega), if_neg (by omega), if_neg (by omega), if_neg (by omega), if_neg (by omega), if_neg (by omega), if_neg (by omega), if_neg (by omega), if_neg (by omega), if_neg (by omega), if_neg (by omega), if_neg (by omega), if_neg (by omega), if_neg (by omega), if_neg (by omega), if_neg (by omega), if_neg (by omega), if_neg (by omega), if_neg (by omega), if_neg (by omega)]
  rw [sI_t (cm_r (sI_r _)), show (281 + x).toNat - 281 = x.toNat by omega]
theorem sx_upd {M M' : mm_M} {n v : Int} {k : Nat} (e : M' = wI M 86 k (sI v)) (hv : -2147483648 ≤ v ∧ v ≤ 2147483647) {g : Nat → Int} (h : ∀ j : Nat, (j : Int) < n → j ≠ k → (M.1 86 j).toInt = g j) : ∀ j : Nat, (j : Int) < n → (M'.1 86 j).toInt = uI g k v j := by
  intro j hj
  unfold uI
  by_cases q : j = k
  · subst q; rw [if_pos rfl, s_wr e hv]
  · rw [if_neg q, e]
    show (u2 M.1 86 k (sI v) 86 j).toInt = _
    rw [u2_b _ _ q]; exact h j hj q
theorem sx_push {M M' : mm_M} {f : Nat → Int32} {W : Nat → Int} {o i i' x n v c : Int} (e : M' = wI M 86 n.toNat (sI v)) (h : b01 (stX M (rkS f W o i.toNat)) = 1) (hi : i' = i + 1 ∧ 0 ≤ i ∧ x = o + i) (hc : (f x.toNat).toInt = c) (q : (-2147483648 ≤ v ∧ v ≤ 2147483647) ∧ 0 ≤ n ∧ n = (rkS f W o i.toNat).1 ∧ c < 1008) (hv : (c < 1000 ∧ v = c) ∨ (¬ c < 1000 ∧ v = W (c - 1000).toNat)) : b01 (stX M' (rkS f W o i'.toNat)) = 1 := b01_i (by
  obtain ⟨rfl, h0, rfl⟩ := hi
  rw [rkS_s f W o i h0]
  unfold rkT stX
  rw [hc, if_pos (by omega)]
  have e2 : pvF W c = v := by
    rcases pvF_s W c with z | z
    · omega
    · omega
  rw [e2, ← q.2.2.1]
  exact sx_upd e q.1 (fun j hj hne => b01_e h j (by rw [← q.2.2.1]; simp only [] at hj; omega)))
theorem sx_not {M M' : mm_M} {f : Nat → Int32} {W : Nat → Int} {o i i' x n v : Int} (e : M' = wI M 86 (n - 1).toNat (sI v)) (h : b01 (stX M (rkS f W o i.toNat)) = 1) (hi : i' = i + 1 ∧ 0 ≤ i ∧ x = o + i) (q : 1 ≤ n ∧ n = (rkS f W o i.toNat).1 ∧ (f x.toNat).toInt = 3006) (hv : v = subI 1 (M.1 86 (n - 1).toNat).toInt) : b01 (stX M' (rkS f W o i'.toNat)) = 1 := b01_i (by
  obtain ⟨rfl, h0, rfl⟩ := hi
  have h2 := b01_e h
  rw [rkS_s f W o i h0]
  unfold rkT stX
  rw [if_neg (by omega), if_pos q.2.2]
  rw [← q.2.1]
  have e2 : (rkS f W o i.toNat).2 (n - 1).toNat = (M.1 86 (n - 1).toNat).toInt := (h2 _ (by rw [← q.2.1]; omega)).symm
  rw [e2, ← hv]
  exact sx_upd e (by rw [hv]; exact sI_r _) (fun j hj hne => h2 j (by rw [← q.2.1]; exact hj)))
theorem sx_bin {M M' : mm_M} {f : Nat → Int32} {W : Nat → Int} {o i i' x n v c : Int} (e : M' = wI M 86 (n - 1).toNat (sI v)) (h : b01 (stX M (rkS f W o i.toNat)) = 1) (hi : i' = i + 1 ∧ 0 ≤ i ∧ x = o + i) (hc : (f x.toNat).toInt = c) (q : (-2147483648 ≤ v ∧ v ≤ 2147483647) ∧ 1 ≤ n ∧ n + 1 = (rkS f W o i.toNat).1 ∧ 3000 ≤ c ∧ ¬ c = 3006) (q7 : v = btF c (M.1 86 (n - 1).toNat).toInt (M.1 86 n.toNat).toInt) : b01 (stX M' (rkS f W o i'.toNat)) = 1 := b01_i (by
  obtain ⟨rfl, h0, rfl⟩ := hi
  have h2 := b01_e h
  obtain ⟨q1, q3, q4, q5, q6⟩ := q
  rw [rkS_s f W o i h0]
  unfold rkT stX
  rw [hc, if_neg (by omega), if_neg q6]
  rw [← q4]
  rw [show n + 1 - 1 - 1 = n - 1 by omega, show n + 1 - 1 = n by omega]
  have e1 : (rkS f W o i.toNat).2 n.toNat = (M.1 86 n.toNat).toInt := (h2 _ (by rw [← q4]; omega)).symm
  have e2 : (rkS f W o i.toNat).2 (n - 1).toNat = (M.1 86 (n - 1).toNat).toInt := (h2 _ (by rw [← q4]; omega)).symm
  rw [e1, e2, ← q7]
  exact sx_upd e q1 (fun j hj hne => h2 j (by rw [← q4]; simp only [] at hj; omega)))
theorem sx_0 (M : mm_M) (f : Nat → Int32) (W : Nat → Int) (o i : Int) (hi : i = 0) : b01 (stX M (rkS f W o i.toNat)) = 1 ∧ (rkS f W o i.toNat).1 = 0 := by
  subst hi
  exact ⟨b01_i (fun j hj => absurd hj (by show ¬ (j : Int) < 0; omega)), rfl⟩
theorem sx_end {M : mm_M} {f : Nat → Int32} {W : Nat → Int} {o i n t : Int} (hc : b01 (CWX f o n) = 1) (h : b01 (stX M (rkS f W o i.toNat)) = 1) (hi : i = n) (ht : t = (rkS f W o i.toNat).1) : t = 1 ∧ (M.1 86 (t - 1).toNat).toInt = (rkS f W o n.toNat).2 0 := by
  subst hi
  obtain ⟨_, _, q⟩ := b01_e hc
  rw [rkS_1, q] at ht
  refine ⟨ht, ?_⟩
  have := b01_e h 0 (by rw [rkS_1, q]; decide)
  rw [ht]; exact this
theorem s_plan : ∀ p, p < mm_N → s_c p = 6 → s_c (s_p0 p 2) = 21 ∧ s_c (s_p0 p 3) = 22 ∧ s_c (s_p0 p 4) = 23 ∧ s_c (s_p0 p 5) = 24 := by decide +kernel
/-! words -/
def WDX (M : mm_M) (W : Nat → Int) : Prop := ∀ j : Nat, j < 8 → (M.1 85 j).toInt = W j
theorem wdx_of {M0 M1 M2 M3 M4 M5 M6 M7 M8 : mm_M} {v0 v1 v2 v3 v4 v5 v6 v7 : Int} {W : Nat → Int} (e0 : M1 = wI M0 85 0 (sI v0)) (e1 : M2 = wI M1 85 1 (sI v1)) (e2 : M3 = wI M2 85 2 (sI v2)) (e3 : M4 = wI M3 85 3 (sI v3)) (e4 : M5 = wI M4 85 4 (sI v4)) (e5 : M6 = wI M5 85 5 (sI v5)) (e6 : M7 = wI M6 85 6 (sI v6)) (e7 : M8 = wI M7 85 7 (sI v7)) (q0 : v0 = W 0) (q1 : v1 = W 1) (q2 : v2 = W 2) (q3 : v3 = W 3) (q4 : v4 = W 4) (q5 : v5 = W 5) (q6 : v6 = W 6) (q7 : v7 = W 7) (r : (-2147483648 ≤ v0 ∧ v0 ≤ 2147483647) ∧ (-2147483648 ≤ v1 ∧ v1 ≤ 2147483647) ∧ (-2147483648 ≤ v2 ∧ v2 ≤ 2147483647) ∧ (-2147483648 ≤ v3 ∧ v3 ≤ 2147483647) ∧ (-2147483648 ≤ v4 ∧ v4 ≤ 2147483647) ∧ (-2147483648 ≤ v5 ∧ v5 ≤ 2147483647) ∧ (-2147483648 ≤ v6 ∧ v6 ≤ 2147483647) ∧ (-2147483648 ≤ v7 ∧ v7 ≤ 2147483647)) : b01 (WDX M8 W) = 1 := b01_i (by
  obtain ⟨r0, r1, r2, r3, r4, r5, r6, r7⟩ := r
  intro j hj
  have st : ∀ {M M' : mm_M} {k : Nat} {v : Int32}, M' = wI M 85 k v → j ≠ k → (M'.1 85 j).toInt = (M.1 85 j).toInt := by
    intro M M' k v e hne
    rw [e]; show (u2 M.1 85 k v 85 j).toInt = _; rw [u2_b _ _ hne]
  rcases (show j = 0 ∨ j = 1 ∨ j = 2 ∨ j = 3 ∨ j = 4 ∨ j = 5 ∨ j = 6 ∨ j = 7 by omega) with rfl | rfl | rfl | rfl | rfl | rfl | rfl | rfl
  · rw [st e7 (by decide), st e6 (by decide), st e5 (by decide), st e4 (by decide), st e3 (by decide), st e2 (by decide), st e1 (by decide), s_wr e0 r0, q0]
  · rw [st e7 (by decide), st e6 (by decide), st e5 (by decide), st e4 (by decide), st e3 (by decide), st e2 (by decide), s_wr e1 r1, q1]
  · rw [st e7 (by decide), st e6 (by decide), st e5 (by decide), st e4 (by decide), st e3 (by decide), s_wr e2 r2, q2]
  · rw [st e7 (by decide), st e6 (by decide), st e5 (by decide), st e4 (by decide), s_wr e3 r3, q3]
  · rw [st e7 (by decide), st e6 (by decide), st e5 (by decide), s_wr e4 r4, q4]
  · rw [st e7 (by decide), st e6 (by decide), s_wr e5 r5, q5]
  · rw [st e7 (by decide), s_wr e6 r6, q6]
  · rw [s_wr e7 r7, q7])
theorem md_8 (M : mm_M) (p : Nat) (h : Int32) {b : Int} (hb : 0 ≤ b ∧ b < 6) : mdX M p h (8 + b).toNat = M.1 (s_p0 p 2) b.toNat := by
  unfold mdX clX
  rw [if_neg (by omega), if_neg (by omega), if_neg (by omega), if_neg (by omega), if_neg (by omega), if_neg (by omega), if_neg (by omega), if_neg (by omega), if_neg (by omega), if_neg (by omega), if_neg (by omega), if_pos (by omega), show (8 + b).toNat - 8 = b.toNat by omega]
theorem md_14 (M : mm_M) (p : Nat) (h : Int32) {b : Int} (hb : 0 ≤ b ∧ b < 6) : mdX M p h (14 + b).toNat = M.1 (s_p0 p 3) b.toNat := by
  unfold mdX clX
  rw [if_neg (by omega), if_neg (by omega), if_neg (by omega), if_neg (by omega), if_neg (by omega), if_neg (by omega), if_neg (by omega), if_neg (by omega), if_neg (by omega), if_neg (by omega), if_neg (by omega), if_neg (by omega), if_pos (by omega), show (14 + b).toNat - 14 = b.toNat by omega]
theorem md_33 (M : mm_M) (p : Nat) (h : Int32) {k : Int} (hk : 0 ≤ k ∧ k < 8) : mdX M p h (33 + k).toNat = M.1 83 k.toNat := by
  unfold mdX
  rw [if_neg (by omega), if_pos (by omega), show (33 + k).toNat - 33 = k.toNat by omega]
theorem md_41 (M : mm_M) (p : Nat) (h : Int32) {k : Int} (hk : 0 ≤ k ∧ k < 8) : mdX M p h (41 + k).toNat = M.1 84 k.toNat := by
  unfold mdX
  rw [if_neg (by omega), if_neg (by omega), if_pos (by omega), show (41 + k).toNat - 41 = k.toNat by omega]
theorem md_fr {S : List Nat} {M N : mm_M} {p : Nat} (hf : FX S M N) (hS : ∀ i ∈ S, i = 82 ∨ i = 85 ∨ i = 86) (cp : s_c p = 6) (h : Int32) : mdX N p h = mdX M p h := by
  have c82 : s_c 82 = 33 := rfl
  have c85 : s_c 85 = 36 := rfl
  have c86 : s_c 86 = 37 := rfl
  have ne : ∀ i : Nat, ¬ i = 82 → ¬ i = 85 → ¬ i = 86 → N.1 i = M.1 i := fun i h1 h2 h3 => hf.cell (fun z => by have := hS i z; omega)
  have nc : ∀ i c : Nat, s_c i = c → ¬ c = 33 → ¬ c = 36 → ¬ c = 37 → N.1 i = M.1 i := fun i c hc h1 h2 h3 => ne i (fun z => h1 (by rw [← hc, z, c82])) (fun z => h2 (by rw [← hc, z, c85])) (fun z => h3 (by rw [← hc, z, c86]))
  have lt := s_lt (c := 6) cp rfl
  have t := s_plan p lt cp
  funext j
  unfold mdX clX
  rw [ne 81 (by decide) (by decide) (by decide), ne 83 (by decide) (by decide) (by decide), ne 84 (by decide) (by decide) (by decide), nc p 6 cp (by decide) (by decide) (by decide), nc _ 21 t.1 (by decide) (by decide) (by decide), nc _ 22 t.2.1 (by decide) (by decide) (by decide), nc _ 23 t.2.2.1 (by decide) (by decide) (by decide), nc _ 24 t.2.2.2 (by decide) (by decide) (by decide), ne 12 (by decide) (by decide) (by decide), ne (s_p0 12 1) (by decide) (by decide) (by decide), ne (s_p0 12 2) (by decide) (by decide) (by decide)]
theorem rkS_W {f : Nat → Int32} {o n : Int} {W V : Nat → Int} (h : zwS f o n) (hw : ∀ j : Nat, j < 8 → W j = V j) : ∀ i : Nat, (i : Int) ≤ n → rkS f W o i = rkS f V o i
  | 0, _ => rfl
  | i + 1, hi => by
    rw [rkS, rkS, rkS_W h hw i (by omega)]
    have k := h i (by omega)
    unfold rkT
    by_cases z : (f (o + (i : Int)).toNat).toInt < 3000
    · rw [if_pos z, if_pos z]
      have e : pvF W (f (o + (i : Int)).toNat).toInt = pvF V (f (o + (i : Int)).toNat).toInt := by
        unfold pvF
        by_cases y : (f (o + (i : Int)).toNat).toInt < 1000
        · rw [if_pos y, if_pos y]
        · rw [if_neg y, if_neg y]
          unfold okc at k
          exact hw _ (by omega)
      rw [e]
    · rw [if_neg z, if_neg z]
/-! lets, wish -/
def LWX (M : mm_M) (p i j : Nat) : Prop := (M.1 p i).toInt = (M.1 p j).toInt ∨ (((M.1 p i).toInt ≤ (M.1 p j).toInt) ∧ CWX (mdX M p 0) (281 + (M.1 p i).toInt) ((M.1 p j).toInt - (M.1 p i).toInt))
theorem lw_ne {M : mm_M} {p i j : Nat} (h : b01 (LWX M p i j) = 1) (hn : ¬ (M.1 p i).toInt = (M.1 p j).toInt) : ((M.1 p i).toInt ≤ (M.1 p j).toInt) ∧ b01 (CWX (mdX M p 0) (281 + (M.1 p i).toInt) ((M.1 p j).toInt - (M.1 p i).toInt)) = 1 := by
  rcases b01_e h with q | q
  · exact absurd q hn
  · exact ⟨q.1, b01_i q.2⟩
theorem cw_fr {S : List Nat} {M N : mm_M} {p : Nat} {o n : Int} (hf : FX S M N) (hS : ∀ i ∈ S, i = 82 ∨ i = 85 ∨ i = 86) (cp : s_c p = 6) (h : b01 (CWX (mdX M p 0) o n) = 1) : b01 (CWX (mdX N p 0) o n) = 1 := by
  rw [md_fr hf hS cp]; exact h
theorem md_lo (M : mm_M) (p : Nat) (h : Int32) : mdX M p h 2 = (if M.1 p 7 = M.1 p 8 then 0 else 1) ∧ mdX M p h 3 = (if M.1 p 9 = M.1 p 10 then 0 else 1) ∧ mdX M p h 4 = M.1 p 7 ∧ mdX M p h 5 = M.1 p 9 ∧ mdX M p h 6 = M.1 p 8 - M.1 p 7 ∧ mdX M p h 7 = M.1 p 10 - M.1 p 9 ∧ mdX M p h 26 = M.1 81 6 ∧ mdX M p h 28 = h := ⟨rfl, rfl, rfl, rfl, rfl, rfl, rfl, rfl⟩
theorem i32_sub {a b : Int32} (h : 0 ≤ a.toInt ∧ a.toInt ≤ b.toInt) : (b - a).toInt = b.toInt - a.toInt := by
  have ra := sI_r a
  have rb := sI_r b
  have e : b - a = sI (b.toInt - a.toInt) := by
    rw [← sI_sub, sI_o, sI_o]
  rw [e, sI_t (by omega)]
theorem i32_ite {a b : Int32} : ((if a = b then (0 : Int32) else 1).toInt = 0 ↔ a.toInt = b.toInt) := by
  by_cases h : a = b
  · rw [if_pos h, h]; exact ⟨fun _ => rfl, fun _ => rfl⟩
  · rw [if_neg h]
    exact ⟨fun z => absurd z (by decide), fun z => absurd (Int32.toInt_inj.mp z) h⟩
theorem rk_X {M N : mm_M} {p l i j : Nat} {S : List Nat} {b k o w : Int} (hl : mdX M p 0 (4 + l) = M.1 p i ∧ mdX M p 0 (6 + l) = M.1 p j - M.1 p i) (hf : FX S M N) (hS : ∀ i ∈ S, i = 82 ∨ i = 85 ∨ i = 86) (cp : s_c p = 6) (hw : b01 (WDX N (wdO (mdX M p 0) b k o w)) = 1) (hc : b01 (LWX M p i j) = 1) (hn : ¬ (M.1 p i).toInt = (M.1 p j).toInt) (h0 : 0 ≤ (M.1 p i).toInt) : (rkS (mdX N p 0) (fcX N) (281 + (M.1 p i).toInt) ((M.1 p j).toInt - (M.1 p i).toInt).toNat).2 0 = rkO (mdX M p 0) l b k o w := by
  obtain ⟨q1, q2⟩ := lw_ne hc hn
  unfold rkO
  rw [hl.1, hl.2, i32_sub ⟨h0, q1⟩, md_fr hf hS cp]
  rw [rkS_W (W := fcX N) (V := wdO (mdX M p 0) b k o w) (b01_e q2).1 (fun j hj => b01_e hw j hj) _ (by omega)]
theorem ltX_s (M : mm_M) (p : Nat) {b k : Int} (o w : Int) (hb : 0 ≤ b ∧ b < 6) (hk : 0 ≤ k ∧ k < 8) : ((M.1 (s_p0 p 2) b.toNat).toInt < (M.1 83 k.toNat).toInt ∧ ltO (mdX M p 0) b k o w = 0) ∨ ((M.1 83 k.toNat).toInt ≤ (M.1 (s_p0 p 2) b.toNat).toInt ∧ (M.1 p 9).toInt = (M.1 p 10).toInt ∧ ltO (mdX M p 0) b k o w = 1) ∨ ((M.1 83 k.toNat).toInt ≤ (M.1 (s_p0 p 2) b.toNat).toInt ∧ ¬ (M.1 p 9).toInt = (M.1 p 10).toInt ∧ ((rkO (mdX M p 0) 1 b k o w = 0 ∧ ltO (mdX M p 0) b k o w = 0) ∨ (¬ rkO (mdX M p 0) 1 b k o w = 0 ∧ ltO (mdX M p 0) b k o w = 1))) := by
  unfold ltO
  have m3 : (mdX M p 0 3).toInt = 0 ↔ (M.1 p 9).toInt = (M.1 p 10).toInt := by rw [(md_lo M p 0).2.1]; exact i32_ite
  rw [md_8 M p 0 hb, md_33 M p 0 hk]
  by_cases c : (M.1 83 k.toNat).toInt ≤ (M.1 (s_p0 p 2) b.toNat).toInt
  · by_cases d : (M.1 p 9).toInt = (M.1 p 10).toInt
    · right; left; rw [if_pos ⟨c, Or.inl (m3.mpr d)⟩]; exact ⟨c, d, rfl⟩
    · right; right
      refine ⟨c, d, ?_⟩
      by_cases e : rkO (mdX M p 0) 1 b k o w = 0
      · left; rw [if_neg (fun z => by rcases z.2 with y | y; exact d (m3.mp y); exact y e)]; exact ⟨e, rfl⟩
      · right; rw [if_pos ⟨c, Or.inr e⟩]; exact ⟨e, rfl⟩
  · left; rw [if_neg (fun z => c z.1)]; exact ⟨by omega, rfl⟩
theorem wtX_s (M : mm_M) (p : Nat) {b k : Int} (o w : Int) (hb : 0 ≤ b ∧ b < 6) (hk : 0 ≤ k ∧ k < 8) : ((M.1 p 7).toInt = (M.1 p 8).toInt ∧ wtO (mdX M p 0) b k o w = subI (M.1 (s_p0 p 2) b.toNat).toInt (M.1 83 k.toNat).toInt) ∨ (¬ (M.1 p 7).toInt = (M.1 p 8).toInt ∧ wtO (mdX M p 0) b k o w = rkO (mdX M p 0) 0 b k o w) := by
  unfold wtO
  have m2 : (mdX M p 0 2).toInt = 0 ↔ (M.1 p 7).toInt = (M.1 p 8).toInt := by rw [(md_lo M p 0).1]; exact i32_ite
  rw [md_8 M p 0 hb, md_33 M p 0 hk]
  by_cases c : (M.1 p 7).toInt = (M.1 p 8).toInt
  · left; rw [if_pos (m2.mpr c)]; exact ⟨c, rfl⟩
  · right; rw [if_neg (fun z => c (m2.mp z))]; exact ⟨c, rfl⟩
end
section
/-! choice -/
theorem md_h (M : mm_M) (p : Nat) (h g : Int32) {j : Nat} (hj : ¬ j = 28) : mdX M p h j = mdX M p g j := by
  unfold mdX clX
  rw [if_neg hj, if_neg hj]
theorem wdO_h (M : mm_M) (p : Nat) (h g : Int32) {b k : Int} (hb : 0 ≤ b ∧ b < 6) (hk : 0 ≤ k ∧ k < 8) (o w : Int) : wdO (mdX M p h) b k o w = wdO (mdX M p g) b k o w := by
  funext j
  unfold wdO
  rw [md_h M p h g (j := (8 + b).toNat) (by omega), md_h M p h g (j := (14 + b).toNat) (by omega), md_h M p h g (j := (33 + k).toNat) (by omega), md_h M p h g (j := (41 + k).toNat) (by omega)]
theorem rkO_h (M : mm_M) (p : Nat) (h g : Int32) {l : Nat} (hl : l < 2) {b k : Int} (hb : 0 ≤ b ∧ b < 6) (hk : 0 ≤ k ∧ k < 8) (h0 : 0 ≤ (mdX M p g (4 + l)).toInt) (o w : Int) : rkO (mdX M p h) l b k o w = rkO (mdX M p g) l b k o w := by
  unfold rkO
  rw [md_h M p h g (j := 4 + l) (by omega), md_h M p h g (j := 6 + l) (by omega), wdO_h M p h g hb hk, rkS_c (fun i hi => md_h M p h g (by omega))]
theorem apO_h (M : mm_M) (p : Nat) (h g : Int32) {b k : Int} (hb : 0 ≤ b ∧ b < 6) (hk : 0 ≤ k ∧ k < 8) (h4 : 0 ≤ (mdX M p g 4).toInt) (h5 : 0 ≤ (mdX M p g 5).toInt) (o w : Int) : apO (mdX M p h) b k o w = apO (mdX M p g) b k o w := by
  unfold apO ltO wtO
  rw [rkO_h M p h g (l := 0) (by decide) hb hk h4, rkO_h M p h g (l := 1) (by decide) hb hk h5, md_h M p h g (j := 2) (by decide), md_h M p h g (j := 3) (by decide), md_h M p h g (j := (8 + b).toNat) (by omega), md_h M p h g (j := (33 + k).toNat) (by omega)]
theorem apO_s (f : Nat → Int32) (b k o w : Int) : (ltO f b k o w = 1 ∧ 0 ≤ wtO f b k o w ∧ apO f b k o w = wtO f b k o w) ∨ (ltO f b k o w = 1 ∧ wtO f b k o w < 0 ∧ apO f b k o w = 0) ∨ (¬ ltO f b k o w = 1 ∧ apO f b k o w = 0) := by
  unfold apO
  by_cases z : ltO f b k o w = 1
  · rw [if_pos z]
    by_cases y : 0 ≤ wtO f b k o w
    · rw [if_pos y]; exact Or.inl ⟨z, y, rfl⟩
    · rw [if_neg y]; exact Or.inr (Or.inl ⟨z, by omega, rfl⟩)
  · rw [if_neg z]; exact Or.inr (Or.inr ⟨z, rfl⟩)
theorem lt_01 (f : Nat → Int32) (b k o w : Int) : ltO f b k o w = 0 ∨ ltO f b k o w = 1 := by
  unfold ltO
  by_cases z : ((f (33 + k).toNat).toInt ≤ (f (8 + b).toNat).toInt ∧ ((f 3).toInt = 0 ∨ ¬ rkO f 1 b k o w = 0))
  · rw [if_pos z]; exact Or.inr rfl
  · rw [if_neg z]; exact Or.inl rfl
/-- a truth's value is 0 or 1 -/
def BTX (M : mm_M) (p : Nat) : Prop := ∀ b k o w : Int, (0 ≤ b ∧ b < 6) → (0 ≤ k ∧ k < 8) → (M.1 p 9).toInt = (M.1 p 10).toInt ∨ bitQ (rkO (mdX M p 0) 1 b k o w)
theorem ii_n : ∀ n : Nat, n < 256 → ∀ k : Nat, k < 8 → (iiF (n : Int) (k : Int) = 0 ∧ andI (shrI (n : Int) (k : Int)) 1 = 0) ∨ (iiF (n : Int) (k : Int) = 1 ∧ andI (shrI (n : Int) (k : Int)) 1 = 1) := by decide +kernel
theorem ii_e {a k : Int} (ha : 0 ≤ a ∧ a ≤ 255) (hk : 0 ≤ k ∧ k < 8) : (iiF a k = 0 ∧ andI (shrI a k) 1 = 0) ∨ (iiF a k = 1 ∧ andI (shrI a k) 1 = 1) := by
  have := ii_n a.toNat (by omega) k.toNat (by omega)
  rw [show ((a.toNat : Nat) : Int) = a by omega, show ((k.toNat : Nat) : Int) = k by omega] at this
  exact this
theorem boX_st (M : mm_M) (p : Nat) {b k s h : Int} (hb : 0 ≤ b ∧ b < 6) (hk : 0 ≤ k ∧ k < 8) (hh : 0 ≤ h ∧ h ≤ 255) (ht : b01 (BTX M p) = 1) (h4 : 0 ≤ (M.1 p 7).toInt) (h5 : 0 ≤ (M.1 p 9).toInt) (h0 : 0 ≤ (boS (mdX M p (sI h)) b s k.toNat).2) (hs : ¬ shF (mdX M p (sI h)) s = 1) : ((andI (shrI h k) 1 = 0 ∧ (boS (mdX M p (sI h)) b s k.toNat).2 < apO (mdX M p 0) b k (bsF s (8 : Int).toNat) (andI (shrI s k) 1)) ∧ (boS (mdX M p (sI h)) b s (k + 1).toNat).1 = k ∧ (boS (mdX M p (sI h)) b s (k + 1).toNat).2 = apO (mdX M p 0) b k (bsF s (8 : Int).toNat) (andI (shrI s k) 1)) ∨ (¬ (andI (shrI h k) 1 = 0 ∧ (boS (mdX M p (sI h)) b s k.toNat).2 < apO (mdX M p 0) b k (bsF s (8 : Int).toNat) (andI (shrI s k) 1)) ∧ (boS (mdX M p (sI h)) b s (k + 1).toNat).1 = (boS (mdX M p (sI h)) b s k.toNat).1 ∧ (boS (mdX M p (sI h)) b s (k + 1).toNat).2 = (boS (mdX M p (sI h)) b s k.toNat).2) := by
  have m28 : (mdX M p (sI h) 28).toInt = h := by rw [(md_lo M p (sI h)).2.2.2.2.2.2.2, sI_t (by omega)]
  have hbit : (mdX M p (sI h) 3).toInt = 0 ∨ bitQ (rkF (mdX M p (sI h)) 1 b k s) := by
    rw [rkO_e, rkO_h M p (sI h) 0 (l := 1) (by decide) hb hk h5]
    rcases b01_e ht b k (bsF s (8 : Int).toNat) (andI (shrI s k) 1) hb hk with q | q
    · left; rw [(md_lo M p (sI h)).2.1]; exact i32_ite.mpr q
    · exact Or.inr q
  have r := bo_ap (mdX M p (sI h)) b k s hk.1 hbit h0 hs
  rw [m28, apO_h M p (sI h) 0 hb hk h4 h5] at r
  have e : (iiF h k = 0) ↔ (andI (shrI h k) 1 = 0) := by have := ii_e hh hk; omega
  rw [e] at r
  exact r
theorem shX (M : mm_M) (p : Nat) {h s : Int} (hh : 0 ≤ h ∧ h ≤ 255) : (andI (andI (pw2 (M.1 81 6).toInt - 1) (-1 - h)) (-1 - s) = 0 ∧ shF (mdX M p (sI h)) s = 1) ∨ (¬ andI (andI (pw2 (M.1 81 6).toInt - 1) (-1 - h)) (-1 - s) = 0 ∧ shF (mdX M p (sI h)) s = 0) := by
  have r := shF_s (mdX M p (sI h)) s
  unfold snF evF at r
  rw [(md_lo M p (sI h)).2.2.2.2.2.2.1, (md_lo M p (sI h)).2.2.2.2.2.2.2, sI_t (by omega)] at r
  exact r
/-- the cache: what it holds is right -/
def APX (M : mm_M) (p : Nat) : Prop := ∀ k b o w : Int, (0 ≤ k ∧ k < 8) → (0 ≤ b ∧ b < 6) → (0 ≤ o ∧ o ≤ 8) → (0 ≤ w ∧ w ≤ 1) → (M.1 83 k.toNat).toInt = 0 ∨ (M.1 82 (k * 108 + (b * 9 + o) * 2 + w).toNat).toInt = -1 ∨ (M.1 82 (k * 108 + (b * 9 + o) * 2 + w).toNat).toInt = apO (mdX M p 0) b k o w
theorem ap_get {M : mm_M} {p : Nat} {k b o w x : Int} (h : b01 (APX M p) = 1) (hk : (0 ≤ k ∧ k < 8) ∧ (0 ≤ b ∧ b < 6) ∧ (0 ≤ o ∧ o ≤ 8) ∧ (0 ≤ w ∧ w ≤ 1)) (hx : x = k * 108 + (b * 9 + o) * 2 + w) : (M.1 83 k.toNat).toInt = 0 ∨ (M.1 82 x.toNat).toInt = -1 ∨ (M.1 82 x.toNat).toInt = apO (mdX M p 0) b k o w := by
  subst hx; exact b01_e h k b o w hk.1 hk.2.1 hk.2.2.1 hk.2.2.2
theorem ap_fr {S : List Nat} {M N : mm_M} {p : Nat} (hf : FX S M N) (hS : ∀ i ∈ S, i = 85 ∨ i = 86) (cp : s_c p = 6) (h : b01 (APX M p) = 1) : b01 (APX N p) = 1 := b01_i (by
  intro k b o w hk hb ho hw
  rw [hf.cell (i := 83) (fun z => by have := hS 83 z; omega), hf.cell (i := 82) (fun z => by have := hS 82 z; omega), md_fr hf (fun i z => by have := hS i z; omega) cp]
  exact b01_e h k b o w hk hb ho hw)
theorem ap_set {M M' : mm_M} {p : Nat} {k b o w x v : Int} (e : M' = wI M 82 x.toNat (sI v)) (cp : s_c p = 6) (h : b01 (APX M p) = 1) (hk : (0 ≤ k ∧ k < 8) ∧ (0 ≤ b ∧ b < 6) ∧ (0 ≤ o ∧ o ≤ 8) ∧ (0 ≤ w ∧ w ≤ 1)) (hx : x = k * 108 + (b * 9 + o) * 2 + w) (hv : (-2147483648 ≤ v ∧ v ≤ 2147483647) ∧ v = apO (mdX M p 0) b k o w) : b01 (APX M' p) = 1 := b01_i (by
  intro k' b' o' w' hk' hb' ho' hw'
  have md : mdX M' p 0 = mdX M p 0 := md_fr (S := [82]) (FX.rf.wI e (by decide)) (by decide) cp 0
  rw [md, wI_cell e (show (83 : Nat) ≠ 82 by decide)]
  by_cases q : k' = k ∧ b' = b ∧ o' = o ∧ w' = w
  · obtain ⟨rfl, rfl, rfl, rfl⟩ := q
    right; right
    rw [← hx, s_wr e hv.1, hv.2]
  · have ne : (k' * 108 + (b' * 9 + o') * 2 + w').toNat ≠ x.toNat := by omega
    rw [show (M'.1 82 (k' * 108 + (b' * 9 + o') * 2 + w').toNat).toInt = (M.1 82 (k' * 108 + (b' * 9 + o') * 2 + w').toNat).toInt from s_fb e ne rfl]
    exact b01_e h k' b' o' w' hk' hb' ho' hw')
/-- every kind has a price -/
def PRX (M : mm_M) : Prop := ∀ k : Int, 0 ≤ k → k < (M.1 81 6).toInt → ¬ (M.1 83 k.toNat).toInt = 0
theorem pr_at {M : mm_M} (h : b01 (PRX M) = 1) (k : Int) : k < 0 ∨ (M.1 81 6).toInt ≤ k ∨ ¬ (M.1 83 k.toNat).toInt = 0 := by
  by_cases a : 0 ≤ k
  · by_cases c : k < (M.1 81 6).toInt
    · exact Or.inr (Or.inr (b01_e h k a c))
    · exact Or.inr (Or.inl (by omega))
  · exact Or.inl (by omega)
theorem ltO_f {S : List Nat} {M N : mm_M} {p : Nat} (hf : FX S M N) (hS : ∀ i ∈ S, i = 82 ∨ i = 85 ∨ i = 86) (cp : s_c p = 6) (b k o w : Int) : ltO (mdX N p 0) b k o w = ltO (mdX M p 0) b k o w ∧ wtO (mdX N p 0) b k o w = wtO (mdX M p 0) b k o w ∧ apO (mdX N p 0) b k o w = apO (mdX M p 0) b k o w := by
  rw [md_fr hf hS cp]; exact ⟨rfl, rfl, rfl⟩
theorem lwx_fr {S : List Nat} {M N : mm_M} {p i j : Nat} (hf : FX S M N) (hS : ∀ i ∈ S, i = 82 ∨ i = 85 ∨ i = 86) (cp : s_c p = 6) (h : b01 (LWX M p i j) = 1) : b01 (LWX N p i j) = 1 := by
  have e : N.1 p = M.1 p := hf.cell (fun z => by
    have c82 : s_c 82 = 33 := rfl
    have c85 : s_c 85 = 36 := rfl
    have c86 : s_c 86 = 37 := rfl
    rcases hS p z with q | q | q
    · rw [q, c82] at cp; cases cp
    · rw [q, c85] at cp; cases cp
    · rw [q, c86] at cp; cases cp)
  unfold LWX
  rw [md_fr hf hS cp, e]; exact h
theorem bo_sh {f : Nat → Int32} {b s : Int} (h : shF f s = 1) : boF f b s = -1 := by unfold boF; rw [bo_shut f b s h]
theorem boX_end (M : mm_M) (p : Nat) (h : Int32) (b s : Int) {k : Int} (hk : 0 ≤ k ∧ k = (M.1 81 6).toInt) : (boS (mdX M p h) b s k.toNat).1 = boF (mdX M p h) b s := bo_end (mdX M p h) b s k ⟨hk.1, Or.inl (by rw [(md_lo M p h).2.2.2.2.2.2.1]; exact hk.2)⟩
end
section
/-! tune -/
theorem apO_g {f g : Nat → Int32} {b k : Int} (h2 : ∀ j, 2 ≤ j → j ≤ 7 → g j = f j) (hb : g (8 + b).toNat = f (8 + b).toNat ∧ g (14 + b).toNat = f (14 + b).toNat) (hk : g (33 + k).toNat = f (33 + k).toNat ∧ g (41 + k).toNat = f (41 + k).toNat) (hc : ∀ j, 281 ≤ j → g j = f j) (h4 : 0 ≤ (f 4).toInt) (h5 : 0 ≤ (f 5).toInt) (o w : Int) : apO g b k o w = apO f b k o w := by
  have wd : wdO g b k o w = wdO f b k o w := by funext j; unfold wdO; rw [hb.1, hb.2, hk.1, hk.2]
  have r0 : rkO g 0 b k o w = rkO f 0 b k o w := by
    unfold rkO
    rw [wd, h2 (4 + 0) (by decide) (by decide), h2 (6 + 0) (by decide) (by decide), rkS_c (fun i hi => hc _ (by have : 0 ≤ (f (4 + 0)).toInt := h4; omega))]
  have r1 : rkO g 1 b k o w = rkO f 1 b k o w := by
    unfold rkO
    rw [wd, h2 (4 + 1) (by decide) (by decide), h2 (6 + 1) (by decide) (by decide), rkS_c (fun i hi => hc _ (by have : 0 ≤ (f (4 + 1)).toInt := h5; omega))]
  unfold apO ltO wtO
  rw [r0, r1, h2 2 (by decide) (by decide), h2 3 (by decide) (by decide), hb.1, hk.1]
def PLE (M N : mm_M) (p : Nat) : Prop := N.1 p = M.1 p ∧ N.1 (s_p0 p 2) = M.1 (s_p0 p 2) ∧ N.1 (s_p0 p 3) = M.1 (s_p0 p 3) ∧ N.1 (s_p0 p 4) = M.1 (s_p0 p 4) ∧ N.1 (s_p0 p 5) = M.1 (s_p0 p 5)
theorem apX_c {M N : mm_M} {p : Nat} {b k : Int} (hp : PLE M N p) (hb : 0 ≤ b ∧ b < 6) (hk : 0 ≤ k ∧ k < 8) (h : N.1 83 k.toNat = M.1 83 k.toNat ∧ N.1 84 k.toNat = M.1 84 k.toNat) (h4 : 0 ≤ (M.1 p 7).toInt) (h5 : 0 ≤ (M.1 p 9).toInt) (o w : Int) : apO (mdX N p 0) b k o w = apO (mdX M p 0) b k o w := by
  obtain ⟨p1, p2, p3, p4, p5⟩ := hp
  refine apO_g (fun j h1 h2 => ?_) ⟨?_, ?_⟩ ⟨?_, ?_⟩ (fun j hj => ?_) h4 h5 o w
  · rcases (show j = 2 ∨ j = 3 ∨ j = 4 ∨ j = 5 ∨ j = 6 ∨ j = 7 by omega) with rfl | rfl | rfl | rfl | rfl | rfl
    · rw [(md_lo N p 0).1, (md_lo M p 0).1, p1]
    · rw [(md_lo N p 0).2.1, (md_lo M p 0).2.1, p1]
    · rw [(md_lo N p 0).2.2.1, (md_lo M p 0).2.2.1, p1]
    · rw [(md_lo N p 0).2.2.2.1, (md_lo M p 0).2.2.2.1, p1]
    · rw [(md_lo N p 0).2.2.2.2.1, (md_lo M p 0).2.2.2.2.1, p1]
    · rw [(md_lo N p 0).2.2.2.2.2.1, (md_lo M p 0).2.2.2.2.2.1, p1]
  · rw [md_8 N p 0 hb, md_8 M p 0 hb, p2]
  · rw [md_14 N p 0 hb, md_14 M p 0 hb, p3]
  · rw [md_33 N p 0 hk, md_33 M p 0 hk]; exact h.1
  · rw [md_41 N p 0 hk, md_41 M p 0 hk]; exact h.2
  · unfold mdX clX
    rw [p5]
    (repeat rw [if_neg (by omega)])
    (repeat rw [if_neg (by omega)])
theorem ple_w {M N : mm_M} {p i k : Nat} {v : Int32} (e : N = wI M i k v) (cp : s_c p = 6) (hi : i = 82 ∨ i = 83 ∨ i = 84) : PLE M N p := by
  have lt := s_lt (c := 6) cp rfl
  have t := s_plan p lt cp
  have c : s_c i = 33 ∨ s_c i = 34 ∨ s_c i = 35 := by rcases hi with rfl | rfl | rfl <;> decide
  have ne : ∀ a q : Nat, s_c a = q → ¬ q = 33 → ¬ q = 34 → ¬ q = 35 → N.1 a = M.1 a := fun a q ha h1 h2 h3 => wI_cell e (fun z => by subst z; rw [ha] at c; omega)
  exact ⟨ne p 6 cp (by decide) (by decide) (by decide), ne _ 21 t.1 (by decide) (by decide) (by decide), ne _ 22 t.2.1 (by decide) (by decide) (by decide), ne _ 23 t.2.2.1 (by decide) (by decide) (by decide), ne _ 24 t.2.2.2 (by decide) (by decide) (by decide)⟩
/-- while kind k is tuned: the others are right, of its own those below x are unknown -/
def APZ (M : mm_M) (p : Nat) (k x : Int) : Prop := (∀ k' b o w : Int, ¬ k' = k → (0 ≤ k' ∧ k' < 8) → (0 ≤ b ∧ b < 6) → (0 ≤ o ∧ o ≤ 8) → (0 ≤ w ∧ w ≤ 1) → (M.1 83 k'.toNat).toInt = 0 ∨ (M.1 82 (k' * 108 + (b * 9 + o) * 2 + w).toNat).toInt = -1 ∨ (M.1 82 (k' * 108 + (b * 9 + o) * 2 + w).toNat).toInt = apO (mdX M p 0) b k' o w) ∧ ∀ y : Int, k * 108 ≤ y → y < x → (M.1 82 y.toNat).toInt = -1
theorem apz_0 {M M1 M2 : mm_M} {p : Nat} {k x v1 v2 : Int} (h : b01 (APX M p) = 1) (cp : s_c p = 6) (e1 : M1 = wI M 83 k.toNat (sI v1)) (e2 : M2 = wI M1 84 k.toNat (sI v2)) (hk : 0 ≤ k ∧ k < 8) (hx : x = k * 108) (h4 : 0 ≤ (M.1 p 7).toInt) (h5 : 0 ≤ (M.1 p 9).toInt) : b01 (APZ M2 p k x) = 1 := b01_i (by
  refine ⟨fun k' b o w hne hk' hb ho hw => ?_, fun y h1 h2 => by omega⟩
  have q1 := ple_w e1 cp (by decide)
  have q2 := ple_w e2 cp (by decide)
  have c83 : M2.1 83 k'.toNat = M.1 83 k'.toNat := by
    rw [wI_cell e2 (show (83 : Nat) ≠ 84 by decide), e1]; show u2 M.1 83 k.toNat (sI v1) 83 k'.toNat = _; rw [u2_b _ _ (show k'.toNat ≠ k.toNat by omega)]
  have c84 : M2.1 84 k'.toNat = M.1 84 k'.toNat := by
    rw [e2]; show u2 M1.1 84 k.toNat (sI v2) 84 k'.toNat = _; rw [u2_b _ _ (show k'.toNat ≠ k.toNat by omega), wI_cell e1 (show (84 : Nat) ≠ 83 by decide)]
  have c82 : M2.1 82 = M.1 82 := by rw [wI_cell e2 (show (82 : Nat) ≠ 84 by decide), wI_cell e1 (show (82 : Nat) ≠ 83 by decide)]
  rw [c83, c82, apX_c (M := M) (N := M2) ⟨q2.1.trans q1.1, q2.2.1.trans q1.2.1, q2.2.2.1.trans q1.2.2.1, q2.2.2.2.1.trans q1.2.2.2.1, q2.2.2.2.2.trans q1.2.2.2.2⟩ hb hk' ⟨c83, c84⟩ h4 h5]
  exact b01_e h k' b o w hk' hb ho hw)
theorem apz_s {M M' : mm_M} {p : Nat} {k x x' : Int} (h : b01 (APZ M p k x) = 1) (cp : s_c p = 6) (e : M' = wI M 82 x.toNat (sI (-1))) (hk : (0 ≤ k ∧ k < 8) ∧ k * 108 ≤ x ∧ x < (k + 1) * 108) (hx : x' = x + 1) (h4 : 0 ≤ (M.1 p 7).toInt) (h5 : 0 ≤ (M.1 p 9).toInt) : b01 (APZ M' p k x') = 1 := b01_i (by
  obtain ⟨a1, a2⟩ := b01_e h
  have q := ple_w e cp (by decide)
  have rd : ∀ y : Int, 0 ≤ y → ¬ y = x → (M'.1 82 y.toNat).toInt = (M.1 82 y.toNat).toInt := fun y h0 h1 => s_fb e (by omega) rfl
  refine ⟨fun k' b o w hne hk' hb ho hw => ?_, fun y h1 h2 => ?_⟩
  · rw [rd _ (by omega) (by omega), wI_cell e (show (83 : Nat) ≠ 82 by decide), apX_c (M := M) (N := M') q hb hk' ⟨by rw [wI_cell e (show (83 : Nat) ≠ 82 by decide)], by rw [wI_cell e (show (84 : Nat) ≠ 82 by decide)]⟩ h4 h5]
    exact a1 k' b o w hne hk' hb ho hw
  · by_cases z : y = x
    · rw [z, s_wr e (by decide)]
    · rw [rd y (by omega) z]; exact a2 y h1 (by omega))
theorem apz_e {M : mm_M} {p : Nat} {k x : Int} (h : b01 (APZ M p k x) = 1) (hk : (0 ≤ k ∧ k < 8) ∧ (k + 1) * 108 ≤ x) : b01 (APX M p) = 1 := b01_i (by
  obtain ⟨a1, a2⟩ := b01_e h
  intro k' b o w hk' hb ho hw
  by_cases z : k' = k
  · subst z; exact Or.inr (Or.inl (a2 _ (by omega) (by omega)))
  · exact a1 k' b o w z hk' hb ho hw)
/-- the first kinds are as the stock has them -/
def TUP (M B : mm_M) (v : Nat) (n : Int) : Prop := ∀ k : Int, 0 ≤ k → k < n → M.1 83 k.toNat = B.1 (s_p0 v 1) k.toNat ∧ M.1 84 k.toNat = B.1 (s_p0 v 2) k.toNat
theorem tup_0 (M B : mm_M) (v : Nat) : b01 (TUP M B v 0) = 1 := b01_i (fun k h0 h1 => by omega)
theorem tup_s {M B : mm_M} {v : Nat} {n n' : Int} (h : b01 (TUP M B v n) = 1) (h1 : (M.1 83 n.toNat).toInt = (B.1 (s_p0 v 1) n.toNat).toInt) (h2 : (M.1 84 n.toNat).toInt = (B.1 (s_p0 v 2) n.toNat).toInt) (hn : n' = n + 1) : b01 (TUP M B v n') = 1 := b01_i (fun k h0 hk => by
  by_cases z : k = n
  · subst z; exact ⟨Int32.toInt_inj.mp h1, Int32.toInt_inj.mp h2⟩
  · exact b01_e h k h0 (by omega))
theorem tup_q {M B : mm_M} {v : Nat} {n n' : Int} (h : b01 (TUP M B v n) = 1) (hn : n = n') : b01 (TUP M B v n') = 1 := by subst hn; exact h
theorem tup_w {M M' B : mm_M} {v : Nat} {n x : Int} {i : Nat} {w : Int32} (h : b01 (TUP M B v n) = 1) (e : M' = wI M i x.toNat w) (hi : i = 82 ∨ (0 ≤ x ∧ n ≤ x)) : b01 (TUP M' B v n) = 1 := b01_i (fun k h0 hk => by
  have q := b01_e h k h0 hk
  have c : ∀ j : Nat, (j = 83 ∨ j = 84) → M'.1 j k.toNat = M.1 j k.toNat := fun j hj => by
    by_cases z : j = i
    · rw [e, z]; exact u2_b _ _ (show k.toNat ≠ x.toNat by omega)
    · rw [wI_cell e z]
  rw [c 83 (by decide), c 84 (by decide)]; exact q)
theorem apx_P {M M' : mm_M} {p i k v : Nat} (e : M' = wP M i k v) (h : b01 (APX M p) = 1) : b01 (APX M' p) = 1 := by
  have : M'.1 = M.1 := by rw [e]
  refine b01_i (fun k b o w hk hb ho hw => ?_)
  have md : mdX M' p 0 = mdX M p 0 := by funext j; unfold mdX clX; rw [this]
  rw [this, md]; exact b01_e h k b o w hk hb ho hw
theorem apx_k {M M' : mm_M} {p : Nat} {v : Int32} (e : M' = wI M 81 6 v) (cp : s_c p = 6) (h4 : 0 ≤ (M.1 p 7).toInt) (h5 : 0 ≤ (M.1 p 9).toInt) (h : b01 (APX M p) = 1) : b01 (APX M' p) = 1 := b01_i (fun k b o w hk hb ho hw => by
  have lt := s_lt (c := 6) cp rfl
  have t := s_plan p lt cp
  have c81 : s_c 81 = 3 := rfl
  have ne : ∀ a q : Nat, s_c a = q → ¬ q = 3 → M'.1 a = M.1 a := fun a q ha h1 => wI_cell e (fun z => by subst z; rw [ha] at c81; exact h1 c81)
  have ple : PLE M M' p := ⟨ne p 6 cp (by decide), ne _ 21 t.1 (by decide), ne _ 22 t.2.1 (by decide), ne _ 23 t.2.2.1 (by decide), ne _ 24 t.2.2.2 (by decide)⟩
  rw [wI_cell e (show (83 : Nat) ≠ 81 by decide), wI_cell e (show (82 : Nat) ≠ 81 by decide), apX_c ple hb hk ⟨by rw [wI_cell e (show (83 : Nat) ≠ 81 by decide)], by rw [wI_cell e (show (84 : Nat) ≠ 81 by decide)]⟩ h4 h5]
  exact b01_e h k b o w hk hb ho hw)
section YAK
variable {p : Program} {l : Launch} {e : Env} {R : Room} {s : State} {m : MethodId} {args : Array Value} {below : List Frame} {meth : Method} {c : Code} {cells slots : Nat} {Q : State → Prop} {cc : ByteArray} {nL : Nat} {own : String} {Ts : List Cond} {dC : Nat → ClassId} {dI : Nat → Nat → Nat} {ad : Nat → Nat} {cA : Nat → ClassId} {A : Nat → Prop} {M Kz : mm_M} {pr : Nat → Nat → Bool} {pc : Nat} {lv : List (Nat × Value)} {st : List Value}
theorem y_aaldK (C : jj_C p R s m args c cells slots cc nL own Ts dC dI ad cA A) {i : Nat} {x : Int} (ci n t j : Nat) (h : s_c i = ci) (h9 : Nat.ble 20 ci = true) (h8 : Nat.ble ci 899 = true) (hk : Nat.ble 103 (s_ak ci) = true) (hn : s_an ci = n) (hs : Nat.ble n 32 = true) (hm : ∀ k, s_m ci k = 0) (ht : ∀ k, k < n → s_t ci k = t) (h0 : ¬ t = 0) (hM : INV pr Kz M) (d : decode cc pc = .ok (.aaload, 1)) (hx : 0 ≤ x ∧ x < n) (hj : s_p0 i x.toNat = j) (k : jj p l e R s m args below meth c cells slots Q nL dC dI ad cA A M (pc + 1) lv (.ref (ad j) :: st)) : jj p l e R s m args below meth c cells slots Q nL dC dI ad cA A M pc lv (.int (sI x) :: .ref (ad i) :: st) := y_aaldE C ci n t h h9 h8 hk hn hs hm ht h0 hM d hx (fun _ => by rw [hj]; exact k)
end YAK
/-! copies of a stock -/
def CPA (M B : mm_M) (p0 p1 g0 g1 : Nat) (n : Int) : Prop := ∀ k : Nat, (k : Int) < n → M.1 p0 k = B.1 p1 k ∧ M.1 g0 k = B.1 g1 k
theorem cpa_0 (M B : mm_M) (p0 p1 g0 g1 : Nat) : b01 (CPA M B p0 p1 g0 g1 0) = 1 := b01_i (fun k hk => by omega)
theorem cpa_s {M M1 M2 B : mm_M} {p0 p1 g0 g1 : Nat} {n n' : Int} (h : b01 (CPA M B p0 p1 g0 g1 n) = 1) (hn : 0 ≤ n ∧ n' = n + 1) (e1 : M1 = wI M p0 n.toNat (sI (B.1 p1 n.toNat).toInt)) (e2 : M2 = wI M1 g0 n.toNat (sI (B.1 g1 n.toNat).toInt)) (hp : p0 ≠ g0) : b01 (CPA M2 B p0 p1 g0 g1 n') = 1 := b01_i (fun k hk => by
  have a : M2.1 p0 k = M1.1 p0 k := by rw [wI_cell e2 hp]
  have b : M1.1 g0 k = M.1 g0 k := by rw [wI_cell e1 hp.symm]
  rw [a]
  by_cases z : k = n.toNat
  · subst z
    constructor
    · rw [e1, sI_o]; exact u2_s _ _ _ _
    · rw [e2, sI_o]; exact u2_s _ _ _ _
  · have q := b01_e h k (by omega)
    constructor
    · rw [e1]; show u2 M.1 p0 n.toNat _ p0 k = _; rw [u2_b _ _ z]; exact q.1
    · rw [e2]; show u2 M1.1 g0 n.toNat _ g0 k = _; rw [u2_b _ _ z, b]; exact q.2)
theorem cpa_c {M M' B : mm_M} {p0 p1 g0 g1 : Nat} {n n' : Int} (h : b01 (CPA M B p0 p1 g0 g1 n) = 1) (h1 : M'.1 p0 = M.1 p0) (h2 : M'.1 g0 = M.1 g0) (hn : n = n') : b01 (CPA M' B p0 p1 g0 g1 n') = 1 := b01_i (fun k hk => by
  rw [h1, h2]; exact b01_e h k (by omega))
end
section
/-! laws, over any memory in which the plan is the same -/
theorem zwS_cc {f g : Nat → Int32} {o n : Int} (h0 : 281 ≤ o) (h : ∀ j, 281 ≤ j → g j = f j) : (∀ i : Nat, dqF g o i = dqF f o i) ∧ (zwS f o n → zwS g o n) := by
  have e : ∀ i : Nat, g (o + (i : Int)).toNat = f (o + (i : Int)).toNat := fun i => h _ (by omega)
  have d : ∀ i : Nat, dqF g o i = dqF f o i := by
    intro i
    induction i with
    | zero => rfl
    | succ i ih => rw [dqF, dqF, e i, ih]
  exact ⟨d, fun z i hi => by rw [e i, d i]; exact z i hi⟩
theorem cwx_c {f g : Nat → Int32} {o n : Int} (h0 : 281 ≤ o) (h : ∀ j, 281 ≤ j → g j = f j) (hc : CWX f o n) : CWX g o n := by
  obtain ⟨d, z⟩ := zwS_cc (n := n) h0 h
  exact ⟨z hc.1, fun i hi => by rw [d i]; exact hc.2.1 i hi, by rw [d]; exact hc.2.2⟩
theorem md_281 {M N : mm_M} {p : Nat} (hp : PLE M N p) (h g : Int32) : ∀ j, 281 ≤ j → mdX N p g j = mdX M p h j := fun j hj => by
  unfold mdX clX
  rw [hp.2.2.2.2]
  (repeat rw [if_neg (by omega)])
  (repeat rw [if_neg (by omega)])
theorem lwx_p {M N : mm_M} {p i j : Nat} (hp : PLE M N p) (h0 : 0 ≤ (M.1 p i).toInt) (h : b01 (LWX M p i j) = 1) : b01 (LWX N p i j) = 1 := b01_i (by
  unfold LWX
  rw [hp.1]
  rcases b01_e h with q | q
  · exact Or.inl q
  · exact Or.inr ⟨q.1, cwx_c (by omega) (md_281 hp 0 0) q.2⟩)
/-- whatever the words are, a truth's value is 0 or 1 -/
def BTW (M : mm_M) (p : Nat) : Prop := (M.1 p 9).toInt = (M.1 p 10).toInt ∨ ∀ W : Nat → Int, bitQ ((rkS (mdX M p 0) W (281 + (M.1 p 9).toInt) ((M.1 p 10).toInt - (M.1 p 9).toInt).toNat).2 0)
theorem btw_p {M N : mm_M} {p : Nat} (hp : PLE M N p) (h0 : 0 ≤ (M.1 p 9).toInt) (h : b01 (BTW M p) = 1) : b01 (BTW N p) = 1 := b01_i (by
  unfold BTW
  rw [hp.1]
  rcases b01_e h with q | q
  · exact Or.inl q
  · refine Or.inr (fun W => ?_)
    rw [rkS_c (f := mdX M p 0) (fun i hi => md_281 hp 0 0 _ (by omega))]
    exact q W)
theorem btx_w {M : mm_M} {p : Nat} (h0 : 0 ≤ (M.1 p 9).toInt) (hl : b01 (LWX M p 9 10) = 1) (h : b01 (BTW M p) = 1) : b01 (BTX M p) = 1 := b01_i (by
  intro b k o w hb hk
  by_cases z : (M.1 p 9).toInt = (M.1 p 10).toInt
  · exact Or.inl z
  · right
    rcases b01_e h with q | q
    · exact absurd q z
    · have l := (lw_ne hl z).1
      have r := q (wdO (mdX M p 0) b k o w)
      unfold rkO
      rw [show mdX M p 0 (4 + 1) = M.1 p 9 from rfl, show mdX M p 0 (6 + 1) = M.1 p 10 - M.1 p 9 from rfl, i32_sub ⟨h0, l⟩]
      exact r)
/-- no price is 0 -/
def PRS (M : mm_M) (c : Nat) (n : Int) : Prop := ∀ k : Int, 0 ≤ k → k < n → ¬ (M.1 c k.toNat).toInt = 0
theorem prx_t {M N : mm_M} {v c : Nat} {n : Int} (hc : s_p0 v 1 = c) (hn : (N.1 81 6).toInt = n) (ht : b01 (TUP N M v n) = 1) (h : b01 (PRS M c n) = 1) : b01 (PRX N) = 1 := b01_i (fun k h0 h1 => by
  rw [hn] at h1
  rw [(b01_e ht k h0 h1).1, hc]
  exact b01_e h k h0 h1)
theorem ple_f {S : List Nat} {M N : mm_M} {p : Nat} (hf : FX S M N) (cp : s_c p = 6) (hS : ∀ x ∈ S, s_c x ≠ 6 ∧ s_c x ≠ 21 ∧ s_c x ≠ 22 ∧ s_c x ≠ 23 ∧ s_c x ≠ 24) : PLE M N p := by
  have lt := s_lt (c := 6) cp rfl
  have t := s_plan p lt cp
  exact ⟨hf.cell (fun z => (hS _ z).1 cp), hf.cell (fun z => (hS _ z).2.1 t.1), hf.cell (fun z => (hS _ z).2.2.1 t.2.1), hf.cell (fun z => (hS _ z).2.2.2.1 t.2.2.1), hf.cell (fun z => (hS _ z).2.2.2.2 t.2.2.2)⟩
theorem md_cl {M N : mm_M} {p v : Nat} (hp : PLE M N p) (h : Int32) {j : Nat} (hj : j < 26 ∨ j = 28 ∨ 281 ≤ j) : mdX N p h j = clX M p v h j := by
  obtain ⟨p1, p2, p3, p4, p5⟩ := hp
  unfold mdX
  rw [if_neg (by omega), if_neg (by omega), if_neg (by omega)]
  unfold clX
  rw [p1, p2, p3, p4, p5]
  rcases hj with q | q | q
  · by_cases c0 : j = 0
    · rw [if_pos c0, if_pos c0]
    · rw [if_neg c0, if_neg c0]
      by_cases c1 : j = 1
      · rw [if_pos c1, if_pos c1]
      · rw [if_neg c1, if_neg c1]
        by_cases c2 : j = 2
        · rw [if_pos c2, if_pos c2]
        · rw [if_neg c2, if_neg c2]
          by_cases c3 : j = 3
          · rw [if_pos c3, if_pos c3]
          · rw [if_neg c3, if_neg c3]
            by_cases c4 : j = 4
            · rw [if_pos c4, if_pos c4]
            · rw [if_neg c4, if_neg c4]
              by_cases c5 : j = 5
              · rw [if_pos c5, if_pos c5]
              · rw [if_neg c5, if_neg c5]
                by_cases c6 : j = 6
                · rw [if_pos c6, if_pos c6]
                · rw [if_neg c6, if_neg c6]
                  by_cases c7 : j = 7
                  · rw [if_pos c7, if_pos c7]
                  · rw [if_neg c7, if_neg c7]
                    by_cases c8 : j < 14
                    · rw [if_pos c8, if_pos c8]
                    · rw [if_neg c8, if_neg c8]
                      by_cases c9 : j < 20
                      · rw [if_pos c9, if_pos c9]
                      · rw [if_neg c9, if_neg c9, if_pos q, if_pos q]
  · subst q; rfl
  · (repeat rw [if_neg (by omega)])
    (repeat rw [if_neg (by omega)])
theorem cl_k (M : mm_M) (p v : Nat) (h : Int32) {k : Int} (hk : 0 ≤ k ∧ k < 8) : clX M p v h (33 + k).toNat = M.1 (s_p0 v 1) k.toNat ∧ clX M p v h (41 + k).toNat = M.1 (s_p0 v 2) k.toNat ∧ clX M p v h 26 = M.1 v 0 := by
  refine ⟨?_, ?_, rfl⟩
  · unfold clX
    (repeat rw [if_neg (by omega)])
    rw [if_pos (by omega), show (33 + k).toNat - 33 = k.toNat by omega]
  · unfold clX
    (repeat rw [if_neg (by omega)])
    rw [if_pos (by omega), show (41 + k).toNat - 41 = k.toNat by omega]
/-- what a buyer would buy, behind tune: as plan and stock tell it -/
theorem bo_tu {M N : mm_M} {p v : Nat} {b s : Int} {h : Int32} (hp : PLE M N p) (hk : (N.1 81 6).toInt = (M.1 v 0).toInt ∧ 0 ≤ (M.1 v 0).toInt ∧ (M.1 v 0).toInt ≤ 8) (ht : b01 (TUP N M v (M.1 v 0).toInt) = 1) (hb : 0 ≤ b ∧ b < 6) (h4 : 0 ≤ (M.1 p 7).toInt) (h5 : 0 ≤ (M.1 p 9).toInt) : boF (mdX N p h) b s = boF (clX M p v h) b s := by
  have lo : ∀ j, j < 26 → mdX N p h j = clX M p v h j := fun j hj => md_cl hp h (Or.inl hj)
  have hi : ∀ j, 281 ≤ j → mdX N p h j = clX M p v h j := fun j hj => md_cl hp h (Or.inr (Or.inr hj))
  have el : ∀ l, l < 2 → EQL (mdX N p h) (clX M p v h) l := fun l hl => by
    refine ⟨by rw [lo (2 + l) (by omega)], fun _ => ⟨lo _ (by omega), lo _ (by omega), fun i _ => hi _ ?_⟩⟩
    rcases (show l = 0 ∨ l = 1 by omega) with rfl | rfl
    · have : (clX M p v h (4 + 0)).toInt = (M.1 p 7).toInt := rfl
      omega
    · have : (clX M p v h (4 + 1)).toInt = (M.1 p 9).toInt := rfl
      omega
  refine bo_c s ?_ (md_cl hp h (Or.inr (Or.inl rfl))) (el 0 (by decide)) (el 1 (by decide)) ⟨lo _ (by omega), lo _ (by omega), lo _ (by omega)⟩ (fun k h0 h1 => ?_)
  · rw [(md_lo N p h).2.2.2.2.2.2.1]
    show N.1 81 6 = M.1 v 0
    exact Int32.toInt_inj.mp hk.1
  · have k26 : (clX M p v h 26).toInt = (M.1 v 0).toInt := rfl
    have q := b01_e ht k h0 (by omega)
    have c := cl_k M p v h (k := k) (by omega)
    exact ⟨by rw [md_33 N p h (by omega), c.1, q.1], by rw [md_41 N p h (by omega), c.2.1, q.2]⟩
theorem apx_o {M N : mm_M} {p : Nat} (hp : PLE M N p) (h2 : N.1 82 = M.1 82) (h3 : N.1 83 = M.1 83) (h8 : N.1 84 = M.1 84) (h4 : 0 ≤ (M.1 p 7).toInt) (h5 : 0 ≤ (M.1 p 9).toInt) (h : b01 (APX M p) = 1) : b01 (APX N p) = 1 := b01_i (fun k b o w hk hb ho hw => by
  rw [h3, h2, apX_c hp hb hk ⟨by rw [h3], by rw [h8]⟩ h4 h5]
  exact b01_e h k b o w hk hb ho hw)
end
