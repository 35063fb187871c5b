/-! THE LAWS' CODES, what they come to -/
/-! how deep the stack goes -/
section PLL
variable (f : Nat → Int) (n : Int)
def dpS (c d : Int) : Int := if c < 3000 then d + 1 else if c = 3006 then d else d - 1
def dpL : List Int → Int → Int
  | [], d => d
  | c :: L, d => dpL L (dpS c d)
def okL (B : Int) : List Int → Int → Prop
  | [], _ => True
  | c :: L, d => okc c d ∧ dpS c d ≤ B ∧ okL B L (dpS c d)
theorem dpL_a : ∀ (L K : List Int) (d : Int), dpL (L ++ K) d = dpL K (dpL L d)
  | [], _, _ => rfl
  | c :: L, K, d => dpL_a L K (dpS c d)
theorem okL_a (B : Int) : ∀ (L K : List Int) (d : Int), okL B L d → okL B K (dpL L d) → okL B (L ++ K) d
  | [], _, _, _, h => h
  | c :: L, K, d, h, h2 => ⟨h.1, h.2.1, okL_a B L K (dpS c d) h.2.2 h2⟩
/-- one value more, m deeper at most -/
def EXQ (m : Int) (L : List Int) : Prop := ∀ d B : Int, 0 ≤ d → d + m ≤ B → okL B L d ∧ dpL L d = d + 1
def LPQ (m : Int) (L : List Int) : Prop := ∀ d B : Int, 1 ≤ d → d + m ≤ B → okL B L d ∧ dpL L d = d
theorem EXQ.m {m m' : Int} {L : List Int} (h : EXQ m L) (hm : m ≤ m') : EXQ m' L := fun d B h0 h1 => h d B h0 (by omega)
theorem LPQ.m {m m' : Int} {L : List Int} (h : LPQ m L) (hm : m ≤ m') : LPQ m' L := fun d B h0 h1 => h d B h0 (by omega)
theorem ex_1c {c : Int} (h : 0 ≤ c ∧ c ≤ 1007) : EXQ 1 [c] := fun d B h0 h1 => by
  have e : dpS c d = d + 1 := by unfold dpS; rw [if_pos (by omega)]
  exact ⟨⟨Or.inl ⟨by omega, h.1, h.2⟩, by omega, trivial⟩, e⟩
theorem lp_nil (m : Int) : LPQ m [] := fun d B h0 h1 => ⟨trivial, rfl⟩
theorem lp_st {m c : Int} {L K : List Int} (hc : 3000 ≤ c ∧ ¬ c = 3006) (h0 : 1 ≤ m) (h : EXQ m L) (hk : LPQ m K) : LPQ m (L ++ c :: K) := fun d B h1 h2 => by
  obtain ⟨a1, a2⟩ := h d B (by omega) h2
  obtain ⟨b1, b2⟩ := hk d B h1 h2
  have e : dpS c (d + 1) = d := by unfold dpS; rw [if_neg (by omega), if_neg hc.2]; omega
  refine ⟨okL_a B L _ d a1 ?_, ?_⟩
  · rw [a2]; exact ⟨Or.inr (Or.inr ⟨hc.1, hc.2, by omega⟩), by omega, by rw [e]; exact b1⟩
  · rw [dpL_a, a2]; show dpL K (dpS c (d + 1)) = d; rw [e]; exact b2
theorem ex_lp {m m' : Int} {L K : List Int} (h : EXQ m L) (hk : LPQ m' K) (hm : m' + 1 ≤ m) : EXQ m (L ++ K) := fun d B h1 h2 => by
  obtain ⟨a1, a2⟩ := h d B h1 h2
  obtain ⟨b1, b2⟩ := hk (d + 1) B (by omega) (by omega)
  exact ⟨okL_a B L K d a1 (by rw [a2]; exact b1), by rw [dpL_a, a2]; exact b2⟩
theorem ex_bin {m m' c : Int} {L K : List Int} (hc : 3000 ≤ c ∧ ¬ c = 3006) (h : EXQ m L) (hk : EXQ m' K) (hm : m' + 1 ≤ m) (h0 : 1 ≤ m) : EXQ m (L ++ (K ++ [c])) := fun d B h1 h2 => by
  obtain ⟨a1, a2⟩ := h d B h1 h2
  obtain ⟨b1, b2⟩ := hk (d + 1) B (by omega) (by omega)
  have e : dpS c (d + 1 + 1) = d + 1 := by unfold dpS; rw [if_neg (by omega), if_neg hc.2]; omega
  refine ⟨okL_a B L _ d a1 ?_, ?_⟩
  · rw [a2]; refine okL_a B K _ _ b1 ?_; rw [b2]; exact ⟨Or.inr (Or.inr ⟨hc.1, hc.2, by omega⟩), by omega, trivial⟩
  · rw [dpL_a, a2, dpL_a, b2]; exact e
theorem ex_not {m : Int} {L : List Int} (h : EXQ m L) (h0 : 1 ≤ m) : EXQ m (L ++ [3006]) := fun d B h1 h2 => by
  obtain ⟨a1, a2⟩ := h d B h1 h2
  have e : dpS 3006 (d + 1) = d + 1 := by unfold dpS; rw [if_neg (by decide), if_pos rfl]
  refine ⟨okL_a B L _ d a1 ?_, ?_⟩
  · rw [a2]; exact ⟨Or.inr (Or.inl ⟨rfl, by omega⟩), by omega, trivial⟩
  · rw [dpL_a, a2]; exact e
theorem cm_b {t a b : Int} (h : t = a ∨ t = b) (ha : 3000 ≤ cmF a ∧ ¬ cmF a = 3006) (hb : 3000 ≤ cmF b ∧ ¬ cmF b = 3006) : 3000 ≤ cmF t ∧ ¬ cmF t = 3006 := by
  rcases h with rfl | rfl
  · exact ha
  · exact hb
theorem nx_0 (i : Int) : 0 ≤ nxF f n i := by unfold nxF runE; exact Int.natCast_nonneg _
theorem lp_lu {a b m : Int} {G : Int → Int × Int × Int} {GL : Int → List Int} (ha : 3000 ≤ cmF a ∧ ¬ cmF a = 3006) (hb : 3000 ≤ cmF b ∧ ¬ cmF b = 3006) (h0 : 1 ≤ m) (h : ∀ j, 0 ≤ j → (G j).1 = 0 → EXQ m (GL j)) (i : Int) : LPQ m (luL f n a b G GL i) := by
  unfold luL
  have key : ∀ (k : Nat) (i : Int), LPQ m (lpL (tqB f n a b) (fun j => G (nxF f n j)) (fun j => GL (nxF f n j) ++ [cmF (tkF f n j)]) k i) := by
    intro k
    induction k with
    | zero => intro i; exact lp_nil m
    | succ k ih =>
      intro i
      rw [lpL]
      by_cases z : tqB f n a b i = true
      · rw [if_pos z]
        by_cases y : (G (nxF f n i)).1 = 0
        · rw [if_pos y]
          have := lp_st (cm_b (of_decide_eq_true z) ha hb) h0 (h _ (nx_0 f n i) y) (ih (G (nxF f n i)).2.2)
          simpa using this
        · rw [if_neg y]; exact lp_nil m
      · rw [if_neg z]; exact lp_nil m
  exact key _ i
theorem at_x {d : Bool} {sub : Int → Int × Int × Int} {subL : Int → List Int} {m : Int} (hm : 1 ≤ m) (h : d = false → ∀ j, 0 ≤ j → (sub j).1 = 0 → EXQ m (subL j)) (i : Int) (hi : 0 ≤ i) (h0 : (atP f n d sub i).1 = 0) : EXQ m (atL f n d subL i) := by
  have v := tkF_v f n i hi
  have fl := flP_s f n i 2
  unfold atL
  rcases atP_s f n d sub i with q | q | q | q
  · rw [if_pos q.1]; exact (ex_1c (by omega)).m hm
  · omega
  · rw [if_neg (by omega), if_pos q.1, q.2.1, if_neg (by decide)]
    refine h q.2.1 _ (nx_0 f n i) ?_
    rw [q.2.2] at h0
    rcases sqP_s (sub (nxF f n i)) (exP f n 2041) with s | s
    · exact s.1
    · omega
  · omega
theorem sq_0 {A : Int × Int × Int} {F : Int → Int × Int × Int} (h : (sqP A F).1 = 0) : A.1 = 0 ∧ (F A.2.2).1 = 0 := by
  rcases sqP_s A F with s | s
  · exact ⟨s.1, by omega⟩
  · omega
theorem te_x {d : Bool} {sub : Int → Int × Int × Int} {subL : Int → List Int} {m : Int} (hm : 1 ≤ m) (h : d = false → ∀ j, 0 ≤ j → (sub j).1 = 0 → EXQ m (subL j)) (i : Int) (hi : 0 ≤ i) (h0 : (teP f n d sub i).1 = 0) : EXQ (m + 1) (teL f n d sub subL i) := by
  obtain ⟨a, b⟩ := sq_0 h0
  exact ex_lp ((at_x f n hm h i hi a).m (by omega)) (lp_lu f n (by decide) (by decide) hm (fun j hj z => at_x f n hm h j hj z) _) (by omega)
theorem su_x {d : Bool} {sub : Int → Int × Int × Int} {subL : Int → List Int} {m : Int} (hm : 1 ≤ m) (h : d = false → ∀ j, 0 ≤ j → (sub j).1 = 0 → EXQ m (subL j)) (i : Int) (hi : 0 ≤ i) (h0 : (suP f n d sub i).1 = 0) : EXQ (m + 2) (suL f n d sub subL i) := by
  obtain ⟨a, b⟩ := sq_0 h0
  exact ex_lp ((te_x f n hm h i hi a).m (by omega)) (lp_lu f n (by decide) (by decide) (by omega) (fun j hj z => te_x f n hm h j hj z) _) (by omega)
theorem sLR_x : ∀ (r : Nat) (i : Int), 0 ≤ i → (suR f n r i).1 = 0 → EXQ (3 + 2 * (r : Int)) (sLR f n r i)
  | 0, i, hi, h => (su_x f n (m := 1) (by decide) (fun z => by cases z) i hi h).m (by omega)
  | r + 1, i, hi, h => (su_x f n (m := 3 + 2 * (r : Int)) (by omega) (fun _ j hj z => sLR_x r j hj z) i hi h).m (by omega)
theorem un_x {d : Bool} {su subU subT : Int → Int × Int × Int} {sl uL tL : Int → List Int} {m : Int} (hm : 1 ≤ m) (hs : ∀ j, 0 ≤ j → (su j).1 = 0 → EXQ m (sl j)) (hu : d = false → ∀ j, 0 ≤ j → (subU j).1 = 0 → EXQ (m + 1) (uL j)) (ht : d = false → ∀ j, 0 ≤ j → (subT j).1 = 0 → EXQ (m + 1) (tL j)) (i : Int) (hi : 0 ≤ i) (h0 : (unP f n d su subU subT i).1 = 0) : EXQ (m + 1) (unL f n d su sl uL tL i) := by
  unfold unL
  rcases unP_s f n d su subU subT i with q | q | q | q | q
  · omega
  · rw [if_pos q.1, q.2.1, if_neg (by decide)]
    rw [q.2.2] at h0
    exact ex_not (hu q.2.1 _ (nx_0 f n i) h0) (by omega)
  · omega
  · rw [if_neg (by omega), if_pos q.1, q.2.1, if_neg (by decide)]
    rw [q.2.2] at h0
    exact ht q.2.1 _ (nx_0 f n i) (sq_0 h0).1
  · rw [if_neg q.1, if_neg q.2.1]
    rw [q.2.2] at h0
    obtain ⟨a, b⟩ := sq_0 h0
    have fl := flP_s f n (su i).2.2 2
    rcases cmP_s f n su (su i).2.2 with c | c
    · have hb : (cmP f n su (su i).2.2).1 = 0 := b
      refine ex_bin ?_ ((hs i hi a).m (by omega)) (hs _ (nx_0 f n _) (by omega)) (by omega) (by omega)
      rcases c.1 with z | z | z
      · rw [z]; decide
      · rw [z]; decide
      · rw [z]; decide
    · have hb : (cmP f n su (su i).2.2).1 = 0 := b
      omega
theorem bo_x {u : Int → Int × Int × Int} {uL : Int → List Int} {m : Int} (hm : 1 ≤ m) (h : ∀ j, 0 ≤ j → (u j).1 = 0 → EXQ m (uL j)) (i : Int) (hi : 0 ≤ i) (h0 : (boP f n u i).1 = 0) : EXQ (m + 1) (boL f n u uL i) := by
  obtain ⟨a, b⟩ := sq_0 h0
  exact ex_lp ((h i hi a).m (by omega)) (lp_lu f n (by decide) (by decide) hm h _) (by omega)
theorem tr_x {u : Int → Int × Int × Int} {uL : Int → List Int} {m : Int} (hm : 1 ≤ m) (h : ∀ j, 0 ≤ j → (u j).1 = 0 → EXQ m (uL j)) (i : Int) (hi : 0 ≤ i) (h0 : (trP f n u i).1 = 0) : EXQ (m + 2) (trL f n u uL i) := by
  obtain ⟨a, b⟩ := sq_0 h0
  exact ex_lp ((bo_x f n hm h i hi a).m (by omega)) (lp_lu f n (by decide) (by decide) (by omega) (fun j hj z => bo_x f n hm h j hj z) _) (by omega)
theorem uLR_x : ∀ (r : Nat) (i : Int), 0 ≤ i → (unR f n r i).1 = 0 → EXQ (4 + 2 * (r : Int)) (uLR f n r i)
  | 0, i, hi, h => (un_x f n (m := 3) (by decide) (fun j hj z => (sLR_x f n 0 j hj z).m (by omega)) (fun z => by cases z) (fun z => by cases z) i hi h).m (by omega)
  | r + 1, i, hi, h => (un_x f n (m := 3 + 2 * ((r + 1 : Nat) : Int)) (by omega) (fun j hj z => sLR_x f n (r + 1) j hj z) (fun _ j hj z => (uLR_x r j hj z).m (by omega)) (fun _ j hj z => (tr_x f n (m := 4 + 2 * (r : Int)) (by omega) (fun j hj z => uLR_x r j hj z) j hj z).m (by omega)) i hi h).m (by omega)
end PLL
/-! what a law's codes come to -/
def rkL (W : Nat → Int) : List Int → Int × (Nat → Int) → Int × (Nat → Int)
  | [], p => p
  | c :: L, p => rkL W L (rkT W c p)
theorem rkL_a (W : Nat → Int) : ∀ (L K : List Int) (p : Int × (Nat → Int)), rkL W (L ++ K) p = rkL W K (rkL W L p)
  | [], _, _ => rfl
  | c :: L, K, p => rkL_a W L K (rkT W c p)
def bitQ (v : Int) : Prop := v = 0 ∨ v = 1
def VAQ (L : List Int) : Prop := ∀ (W : Nat → Int) (p : Int × (Nat → Int)), 0 ≤ p.1 → (rkL W L p).1 = p.1 + 1 ∧ ∀ j : Nat, (j : Int) < p.1 → (rkL W L p).2 j = p.2 j
def VBQ (L : List Int) : Prop := ∀ (W : Nat → Int) (p : Int × (Nat → Int)), 0 ≤ p.1 → (rkL W L p).1 = p.1 + 1 ∧ (∀ j : Nat, (j : Int) < p.1 → (rkL W L p).2 j = p.2 j) ∧ bitQ ((rkL W L p).2 p.1.toNat)
def LAQ (L : List Int) : Prop := ∀ (W : Nat → Int) (p : Int × (Nat → Int)), 1 ≤ p.1 → (rkL W L p).1 = p.1 ∧ ∀ j : Nat, (j : Int) < p.1 - 1 → (rkL W L p).2 j = p.2 j
def LBQ (L : List Int) : Prop := ∀ (W : Nat → Int) (p : Int × (Nat → Int)), 1 ≤ p.1 → bitQ (p.2 (p.1 - 1).toNat) → (rkL W L p).1 = p.1 ∧ (∀ j : Nat, (j : Int) < p.1 - 1 → (rkL W L p).2 j = p.2 j) ∧ bitQ ((rkL W L p).2 (p.1 - 1).toNat)
theorem uI_o {g : Nat → Int} {k j : Nat} {v : Int} (h : j ≠ k) : uI g k v j = g j := by unfold uI; rw [if_neg h]
theorem uI_s {g : Nat → Int} {k : Nat} {v : Int} : uI g k v k = v := by unfold uI; rw [if_pos rfl]
theorem va_b {L : List Int} (h : VBQ L) : VAQ L := fun W p h0 => ⟨(h W p h0).1, (h W p h0).2.1⟩
theorem va_c {c : Int} (h : c < 3000) : VAQ [c] := fun W p h0 => by
  show (rkT W c p).1 = _ ∧ ∀ j : Nat, _ → (rkT W c p).2 j = _
  unfold rkT
  rw [if_pos h]
  exact ⟨rfl, fun j hj => uI_o (by omega)⟩
theorem va_bin {c : Int} {L K : List Int} (hc : 3000 ≤ c ∧ ¬ c = 3006) (h : VAQ L) (hk : VAQ K) (W : Nat → Int) (p : Int × (Nat → Int)) (h0 : 0 ≤ p.1) : (rkL W (L ++ (K ++ [c])) p).1 = p.1 + 1 ∧ (∀ j : Nat, (j : Int) < p.1 → (rkL W (L ++ (K ++ [c])) p).2 j = p.2 j) ∧ ∃ a b, (rkL W (L ++ (K ++ [c])) p).2 p.1.toNat = btF c a b := by
  rw [rkL_a, rkL_a]
  obtain ⟨a1, a2⟩ := h W p h0
  obtain ⟨b1, b2⟩ := hk W (rkL W L p) (by omega)
  show (rkT W c _).1 = _ ∧ (∀ j : Nat, _ → (rkT W c _).2 j = _) ∧ ∃ a b, (rkT W c _).2 _ = _
  unfold rkT
  rw [if_neg (by omega), if_neg hc.2]
  refine ⟨by show _ - 1 = _; omega, fun j hj => ?_, (rkL W K (rkL W L p)).2 ((rkL W K (rkL W L p)).1 - 1 - 1).toNat, (rkL W K (rkL W L p)).2 ((rkL W K (rkL W L p)).1 - 1).toNat, ?_⟩
  · show uI _ _ _ j = _
    rw [uI_o (by omega), b2 j (by omega), a2 j hj]
  · show uI _ ((rkL W K (rkL W L p)).1 - 1 - 1).toNat _ p.1.toNat = _
    rw [show p.1.toNat = ((rkL W K (rkL W L p)).1 - 1 - 1).toNat by omega, uI_s]
theorem va_two {c : Int} {L K : List Int} (hc : 3000 ≤ c ∧ ¬ c = 3006) (h : VAQ L) (hk : VAQ K) : VAQ (L ++ (K ++ [c])) := fun W p h0 => ⟨(va_bin hc h hk W p h0).1, (va_bin hc h hk W p h0).2.1⟩
theorem bt_b {c a b : Int} (hc : c = 3003 ∨ c = 3004 ∨ c = 3005) : bitQ (btF c a b) := by
  have := btF_s c a b
  unfold bitQ
  omega
theorem vb_cmp {c : Int} {L K : List Int} (hc : c = 3003 ∨ c = 3004 ∨ c = 3005) (h : VAQ L) (hk : VAQ K) : VBQ (L ++ (K ++ [c])) := fun W p h0 => by
  obtain ⟨x, y, a, b, e⟩ := va_bin (c := c) (by omega) h hk W p h0
  exact ⟨x, y, by rw [e]; exact bt_b hc⟩
theorem vb_not {L : List Int} (h : VBQ L) : VBQ (L ++ [3006]) := fun W p h0 => by
  rw [rkL_a]
  obtain ⟨a1, a2, a3⟩ := h W p h0
  show (rkT W 3006 _).1 = _ ∧ (∀ j : Nat, _ → (rkT W 3006 _).2 j = _) ∧ bitQ ((rkT W 3006 _).2 _)
  unfold rkT
  rw [if_neg (by decide), if_pos rfl]
  refine ⟨a1, fun j hj => ?_, ?_⟩
  · show uI _ _ _ j = _
    rw [uI_o (by omega), a2 j hj]
  · show bitQ (uI _ _ _ _)
    rw [show ((rkL W L p).1 - 1).toNat = p.1.toNat by omega, uI_s]
    rcases a3 with z | z
    · rw [z]; right; decide
    · rw [z]; left; decide
theorem la_nil : LAQ [] := fun W p h0 => ⟨rfl, fun j hj => rfl⟩
theorem lb_nil : LBQ [] := fun W p h0 h1 => ⟨rfl, fun j hj => rfl, h1⟩
theorem la_st {c : Int} {L K : List Int} (hc : 3000 ≤ c ∧ ¬ c = 3006) (h : VAQ L) (hk : LAQ K) : LAQ (L ++ c :: K) := fun W p h0 => by
  rw [rkL_a]
  obtain ⟨a1, a2⟩ := h W p (by omega)
  have e : (rkT W c (rkL W L p)).1 = p.1 ∧ ∀ j : Nat, (j : Int) < p.1 - 1 → (rkT W c (rkL W L p)).2 j = p.2 j := by
    unfold rkT
    rw [if_neg (by omega), if_neg hc.2]
    refine ⟨by show _ - 1 = _; omega, fun j hj => ?_⟩
    show uI _ _ _ j = _
    rw [uI_o (by omega), a2 j (by omega)]
  obtain ⟨b1, b2⟩ := hk W (rkT W c (rkL W L p)) (by omega)
  exact ⟨by show (rkL W K _).1 = _; omega, fun j hj => by show (rkL W K _).2 j = _; rw [b2 j (by omega), e.2 j hj]⟩
theorem bt_ao {c a b : Int} (hc : c = 3007 ∨ c = 3008) (ha : bitQ a) (hb : bitQ b) : bitQ (btF c a b) := by
  rcases hc with rfl | rfl
  · rcases ha with rfl | rfl
    · rcases hb with rfl | rfl
      · left; decide
      · left; decide
    · rcases hb with rfl | rfl
      · left; decide
      · right; decide
  · rcases ha with rfl | rfl
    · rcases hb with rfl | rfl
      · left; decide
      · right; decide
    · rcases hb with rfl | rfl
      · right; decide
      · right; decide
theorem lb_st {c : Int} {L K : List Int} (hc : c = 3007 ∨ c = 3008) (h : VBQ L) (hk : LBQ K) : LBQ (L ++ c :: K) := fun W p h0 h1 => by
  rw [rkL_a]
  obtain ⟨a1, a2, a3⟩ := h W p (by omega)
  have e : (rkT W c (rkL W L p)).1 = p.1 ∧ (∀ j : Nat, (j : Int) < p.1 - 1 → (rkT W c (rkL W L p)).2 j = p.2 j) ∧ bitQ ((rkT W c (rkL W L p)).2 (p.1 - 1).toNat) := by
    unfold rkT
    rw [if_neg (by omega), if_neg (by omega)]
    refine ⟨by show _ - 1 = _; omega, fun j hj => ?_, ?_⟩
    · show uI _ _ _ j = _
      rw [uI_o (by omega), a2 j (by omega)]
    · show bitQ (uI _ _ _ _)
      rw [show ((rkL W L p).1 - 1 - 1).toNat = (p.1 - 1).toNat by omega, uI_s]
      refine bt_ao hc ?_ ?_
      · rw [a2 (p.1 - 1).toNat (by omega)]; exact h1
      · rw [show ((rkL W L p).1 - 1).toNat = p.1.toNat by omega]; exact a3
  obtain ⟨b1, b2, b3⟩ := hk W (rkT W c (rkL W L p)) (by omega) (by rw [e.1]; exact e.2.2)
  rw [e.1] at b3
  exact ⟨by show (rkL W K _).1 = _; omega, fun j hj => by show (rkL W K _).2 j = _; rw [b2 j (by omega), e.2.1 j hj], b3⟩
theorem va_lp {L K : List Int} (h : VAQ L) (hk : LAQ K) : VAQ (L ++ K) := fun W p h0 => by
  rw [rkL_a]
  obtain ⟨a1, a2⟩ := h W p h0
  obtain ⟨b1, b2⟩ := hk W (rkL W L p) (by omega)
  exact ⟨by omega, fun j hj => by rw [b2 j (by omega), a2 j hj]⟩
theorem vb_lp {L K : List Int} (h : VBQ L) (hk : LBQ K) : VBQ (L ++ K) := fun W p h0 => by
  rw [rkL_a]
  obtain ⟨a1, a2, a3⟩ := h W p h0
  obtain ⟨b1, b2, b3⟩ := hk W (rkL W L p) (by omega) (by rw [show ((rkL W L p).1 - 1).toNat = p.1.toNat by omega]; exact a3)
  rw [show ((rkL W L p).1 - 1).toNat = p.1.toNat by omega] at b3
  exact ⟨by omega, fun j hj => by rw [b2 j (by omega), a2 j hj], b3⟩
section PLV
variable (f : Nat → Int) (n : Int)
theorem la_lu {a b : Int} {G : Int → Int × Int × Int} {GL : Int → List Int} (ha : 3000 ≤ cmF a ∧ ¬ cmF a = 3006) (hb : 3000 ≤ cmF b ∧ ¬ cmF b = 3006) (h : ∀ j, 0 ≤ j → (G j).1 = 0 → VAQ (GL j)) (i : Int) : LAQ (luL f n a b G GL i) := by
  unfold luL
  have key : ∀ (k : Nat) (i : Int), LAQ (lpL (tqB f n a b) (fun j => G (nxF f n j)) (fun j => GL (nxF f n j) ++ [cmF (tkF f n j)]) k i) := by
    intro k
    induction k with
    | zero => intro i; exact la_nil
    | succ k ih =>
      intro i
      rw [lpL]
      by_cases z : tqB f n a b i = true
      · rw [if_pos z]
        by_cases y : (G (nxF f n i)).1 = 0
        · rw [if_pos y]
          have := la_st (cm_b (of_decide_eq_true z) ha hb) (h _ (nx_0 f n i) y) (ih (G (nxF f n i)).2.2)
          simpa using this
        · rw [if_neg y]; exact la_nil
      · rw [if_neg z]; exact la_nil
  exact key _ i
theorem lb_lu {a : Int} {G : Int → Int × Int × Int} {GL : Int → List Int} (ha : cmF a = 3007 ∨ cmF a = 3008) (h : ∀ j, 0 ≤ j → (G j).1 = 0 → VBQ (GL j)) (i : Int) : LBQ (luL f n a a G GL i) := by
  unfold luL
  have key : ∀ (k : Nat) (i : Int), LBQ (lpL (tqB f n a a) (fun j => G (nxF f n j)) (fun j => GL (nxF f n j) ++ [cmF (tkF f n j)]) k i) := by
    intro k
    induction k with
    | zero => intro i; exact lb_nil
    | succ k ih =>
      intro i
      rw [lpL]
      by_cases z : tqB f n a a i = true
      · rw [if_pos z]
        by_cases y : (G (nxF f n i)).1 = 0
        · rw [if_pos y]
          have e : tkF f n i = a := by have := of_decide_eq_true z; omega
          have := lb_st (c := cmF (tkF f n i)) (by rw [e]; exact ha) (h _ (nx_0 f n i) y) (ih (G (nxF f n i)).2.2)
          simpa using this
        · rw [if_neg y]; exact lb_nil
      · rw [if_neg z]; exact lb_nil
  exact key _ i
theorem at_v {d : Bool} {sub : Int → Int × Int × Int} {subL : Int → List Int} (h : d = false → ∀ j, 0 ≤ j → (sub j).1 = 0 → VAQ (subL j)) (i : Int) (hi : 0 ≤ i) (h0 : (atP f n d sub i).1 = 0) : VAQ (atL f n d subL i) := by
  have fl := flP_s f n i 2
  unfold atL
  rcases atP_s f n d sub i with q | q | q | q
  · rw [if_pos q.1]; exact va_c (by omega)
  · omega
  · rw [if_neg (by omega), if_pos q.1, q.2.1, if_neg (by decide)]
    rw [q.2.2] at h0
    exact h q.2.1 _ (nx_0 f n i) (sq_0 h0).1
  · omega
theorem te_v {d : Bool} {sub : Int → Int × Int × Int} {subL : Int → List Int} (h : d = false → ∀ j, 0 ≤ j → (sub j).1 = 0 → VAQ (subL j)) (i : Int) (hi : 0 ≤ i) (h0 : (teP f n d sub i).1 = 0) : VAQ (teL f n d sub subL i) :=
  va_lp (at_v f n h i hi (sq_0 h0).1) (la_lu f n (by decide) (by decide) (fun j hj z => at_v f n h j hj z) _)
theorem su_v {d : Bool} {sub : Int → Int × Int × Int} {subL : Int → List Int} (h : d = false → ∀ j, 0 ≤ j → (sub j).1 = 0 → VAQ (subL j)) (i : Int) (hi : 0 ≤ i) (h0 : (suP f n d sub i).1 = 0) : VAQ (suL f n d sub subL i) :=
  va_lp (te_v f n h i hi (sq_0 h0).1) (la_lu f n (by decide) (by decide) (fun j hj z => te_v f n h j hj z) _)
theorem sLR_v : ∀ (r : Nat) (i : Int), 0 ≤ i → (suR f n r i).1 = 0 → VAQ (sLR f n r i)
  | 0, i, hi, h => su_v f n (fun z => by cases z) i hi h
  | r + 1, i, hi, h => su_v f n (fun _ j hj z => sLR_v r j hj z) i hi h
theorem un_v {d : Bool} {su subU subT : Int → Int × Int × Int} {sl uL tL : Int → List Int} (hs : ∀ j, 0 ≤ j → (su j).1 = 0 → VAQ (sl j)) (hu : d = false → ∀ j, 0 ≤ j → (subU j).1 = 0 → VBQ (uL j)) (ht : d = false → ∀ j, 0 ≤ j → (subT j).1 = 0 → VBQ (tL j)) (i : Int) (hi : 0 ≤ i) (h0 : (unP f n d su subU subT i).1 = 0) : VBQ (unL f n d su sl uL tL i) := by
  unfold unL
  rcases unP_s f n d su subU subT i with q | q | q | q | q
  · omega
  · rw [if_pos q.1, q.2.1, if_neg (by decide)]
    rw [q.2.2] at h0
    exact vb_not (hu q.2.1 _ (nx_0 f n i) h0)
  · omega
  · rw [if_neg (by omega), if_pos q.1, q.2.1, if_neg (by decide)]
    rw [q.2.2] at h0
    exact ht q.2.1 _ (nx_0 f n i) (sq_0 h0).1
  · rw [if_neg q.1, if_neg q.2.1]
    rw [q.2.2] at h0
    obtain ⟨a, b⟩ := sq_0 h0
    have fl := flP_s f n (su i).2.2 2
    have hb : (cmP f n su (su i).2.2).1 = 0 := b
    rcases cmP_s f n su (su i).2.2 with c | c
    · refine vb_cmp ?_ (hs i hi a) (hs _ (nx_0 f n _) (by omega))
      rcases c.1 with z | z | z
      · rw [z]; decide
      · rw [z]; decide
      · rw [z]; decide
    · omega
theorem bo_v {u : Int → Int × Int × Int} {uL : Int → List Int} (h : ∀ j, 0 ≤ j → (u j).1 = 0 → VBQ (uL j)) (i : Int) (hi : 0 ≤ i) (h0 : (boP f n u i).1 = 0) : VBQ (boL f n u uL i) := vb_lp (h i hi (sq_0 h0).1) (lb_lu f n (by decide) h _)
theorem tr_v {u : Int → Int × Int × Int} {uL : Int → List Int} (h : ∀ j, 0 ≤ j → (u j).1 = 0 → VBQ (uL j)) (i : Int) (hi : 0 ≤ i) (h0 : (trP f n u i).1 = 0) : VBQ (trL f n u uL i) := vb_lp (bo_v f n h i hi (sq_0 h0).1) (lb_lu f n (by decide) (fun j hj z => bo_v f n h j hj z) _)
theorem uLR_v : ∀ (r : Nat) (i : Int), 0 ≤ i → (unR f n r i).1 = 0 → VBQ (uLR f n r i)
  | 0, i, hi, h => un_v f n (fun j hj z => sLR_v f n 0 j hj z) (fun z => by cases z) (fun z => by cases z) i hi h
  | r + 1, i, hi, h => un_v f n (fun j hj z => sLR_v f n (r + 1) j hj z) (fun _ j hj z => uLR_v r j hj z) (fun _ j hj z => tr_v f n (fun j hj z => uLR_v r j hj z) j hj z) i hi h
end PLV
