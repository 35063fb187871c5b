/-! WHAT A TOLD SHOP KEEPS -/
def KQ (T : Nat → Int) : Prop := (0 ≤ T 26 ∧ T 26 ≤ 8) ∧ ∀ k : Int, 0 ≤ k → k < T 26 → (1 ≤ T (33 + k).toNat ∧ T (33 + k).toNat ≤ 99) ∧ 0 ≤ T (41 + k).toNat ∧ T (41 + k).toNat ≤ 9
def BQ (T : Nat → Int) : Prop := (0 ≤ T 1 ∧ T 1 ≤ 6) ∧ ∀ b : Int, 0 ≤ b → b < T 1 → (0 ≤ T (8 + b).toNat ∧ T (8 + b).toNat ≤ 999) ∧ (0 ≤ T (14 + b).toNat ∧ T (14 + b).toNat ≤ 9) ∧ 0 ≤ T (20 + b).toNat ∧ T (20 + b).toNat ≤ 9
def SQ (T : Nat → Int) : Prop := (0 ≤ T 27 ∧ T 27 < pw2 (T 26)) ∧ 0 ≤ T 28 ∧ T 28 < pw2 (T 26)
def GLQ (l : Nat) (L : List Int) : Prop := (EXQ 18 L ∧ VAQ L) ∧ (l = 1 → VBQ L)
def WQ (l : Nat) (T : Nat → Int) : Prop := T (2 + l) = 0 ∨ (T (2 + l) = 1 ∧ 0 ≤ T (4 + l) ∧ T (4 + l) + T (6 + l) ≤ T 280 ∧ ∃ L, GLQ l L ∧ T (6 + l) = (L.length : Int) ∧ ∀ i : Nat, i < L.length → T (281 + T (4 + l) + (i : Int)).toNat = L.getD i 0)
def ZQ (T : Nat → Int) : Prop := 0 ≤ T 280 ∧ T 29 = 0 ∧ T 30 = 0 ∧ T 31 = 0 ∧ T 32 = 0 ∧ T 49 = 0
def RWQ (T : Nat → Int) : Prop := (KQ T ∧ SQ T) ∧ BQ T ∧ (WQ 0 T ∧ WQ 1 T) ∧ ZQ T
theorem or_p : ∀ k : Nat, k < 8 → ∀ a : Nat, a < 256 → (a : Int) < pw2 ((k : Int) + 1) → 0 ≤ orI (a : Int) (pw2 (k : Int)) ∧ orI (a : Int) (pw2 (k : Int)) < pw2 ((k : Int) + 1) := by decide +kernel
theorem pw_m : ∀ k : Nat, k < 8 → pw2 (k : Int) ≤ pw2 ((k : Int) + 1) ∧ pw2 ((k : Int) + 1) ≤ 256 := by decide +kernel
theorem or_q {k a : Int} (hk : 0 ≤ k ∧ k < 8) (h : 0 ≤ a ∧ a < pw2 (k + 1)) : 0 ≤ orI a (pw2 k) ∧ orI a (pw2 k) < pw2 (k + 1) := by
  have m := (pw_m k.toNat (by omega)).2
  rw [show ((k.toNat : Nat) : Int) = k by omega] at m
  have := or_p k.toNat (by omega) a.toNat (by omega)
  rw [show ((k.toNat : Nat) : Int) = k by omega, show ((a.toNat : Nat) : Int) = a by omega] at this
  exact this h.2
theorem lpT_i {P : (Nat → Int) → Prop} {q : Int → Bool} {st : Int → Int × Int × Int} {GT : Int → (Nat → Int) → Nat → Int} (hG : ∀ i T, q i = true → (st i).1 = 0 → P T → P (GT i T)) : ∀ (k : Nat) (i : Int) (T : Nat → Int), P T → P (lpT q st GT k i T)
  | 0, _, _, h => h
  | k + 1, i, T, h => by
    rw [lpT]
    by_cases z : q i = true
    · rw [if_pos z]
      by_cases y : (st i).1 = 0
      · rw [if_pos y]; exact lpT_i hG k _ _ (hG i T z y h)
      · rw [if_neg y]; exact h
    · rw [if_neg z]; exact h
/-! codes written -/
theorem emL_v : ∀ (L : List Int) (T : Nat → Int), 0 ≤ T 280 → (∀ j : Nat, 281 ≤ j → (j : Int) < 281 + T 280 → emL L T j = T j) ∧ ∀ i : Nat, i < L.length → emL L T (281 + T 280 + (i : Int)).toNat = L.getD i 0
  | [], _, _ => ⟨fun _ _ _ => rfl, fun i hi => absurd hi (by simp)⟩
  | c :: L, T, h => by
    have e : emT c T 280 = T 280 + 1 := by unfold emT; exact uT_s
    have o : ∀ j : Nat, j ≠ 280 → j ≠ (281 + T 280).toNat → emT c T j = T j := fun j h1 h2 => by unfold emT; rw [uT_o h1, uT_o h2]
    have s : emT c T (281 + T 280).toNat = c := by unfold emT; rw [uT_o (by omega)]; exact uT_s
    obtain ⟨a, b⟩ := emL_v L (emT c T) (by omega)
    refine ⟨fun j h1 h2 => ?_, fun i hi => ?_⟩
    · show emL L (emT c T) j = _
      rw [a j h1 (by omega), o j (by omega) (by omega)]
    · show emL L (emT c T) _ = _
      cases i with
      | zero =>
        rw [show (281 + T 280 + ((0 : Nat) : Int)).toNat = (281 + T 280).toNat by omega, a _ (by omega) (by omega), s]
        rfl
      | succ i =>
        have := b i (by simpa using hi)
        rw [e, show (281 + (T 280 + 1) + (i : Int)).toNat = (281 + T 280 + ((i + 1 : Nat) : Int)).toNat by omega] at this
        rw [this]
        rfl
theorem wq_o {l : Nat} (hl : l ≤ 1) {T T' : Nat → Int} (h : WQ l T) (e : ∀ j : Nat, (2 ≤ j ∧ j < 8) ∨ 280 ≤ j → T' j = T j) : WQ l T' := by
  unfold WQ at *
  rw [e (2 + l) (by omega), e (4 + l) (by omega), e (6 + l) (by omega), e 280 (by omega)]
  rcases h with h | ⟨h1, h2, h3, L, g, h4, h5⟩
  · exact Or.inl h
  · exact Or.inr ⟨h1, h2, h3, L, g, h4, fun i hi => by rw [e _ (by omega)]; exact h5 i hi⟩
theorem kq_o {T T' : Nat → Int} (h : KQ T ∧ SQ T) (e : ∀ j : Nat, 26 ≤ j → j < 49 → T' j = T j) : KQ T' ∧ SQ T' := by
  obtain ⟨⟨h0, h1⟩, h2⟩ := h
  unfold KQ SQ at *
  rw [e 26 (by omega) (by omega), e 27 (by omega) (by omega), e 28 (by omega) (by omega)]
  exact ⟨⟨h0, fun k a b => by rw [e _ (by omega) (by omega), e _ (by omega) (by omega)]; exact h1 k a b⟩, h2⟩
theorem bq_o {T T' : Nat → Int} (h : BQ T) (e : ∀ j : Nat, j = 1 ∨ (8 ≤ j ∧ j < 26) → T' j = T j) : BQ T' := by
  obtain ⟨h0, h1⟩ := h
  unfold BQ at *
  rw [e 1 (by omega)]
  exact ⟨h0, fun b a c => by rw [e _ (by omega), e _ (by omega), e _ (by omega)]; exact h1 b a c⟩
theorem zq_o {T T' : Nat → Int} (h : ZQ T) (e : ∀ j : Nat, (29 ≤ j ∧ j < 33) ∨ j = 280 ∨ j = 49 → T' j = T j) : ZQ T' := by
  unfold ZQ at *
  rw [e 280 (by omega), e 29 (by omega), e 30 (by omega), e 31 (by omega), e 32 (by omega), e 49 (by omega)]
  exact h
section RP
variable (f : Nat → Int) (n : Int)
theorem nu_r {lo hi i : Int} (h : (nuP f n lo hi i).1 = 0) : lo ≤ tkF f n i ∧ tkF f n i ≤ hi := by
  have a := nuP_s f n lo hi i
  have b := flP_s f n i 2
  omega
theorem fa_0 {i k : Int} (hk : ¬ k = 0) : ¬ (faP f n i k).1 = 0 := by
  have b := flP_s f n i k
  show ¬ flP f n i k = 0
  omega
/-- while a kind's flags are read -/
def KI (k : Int) (T : Nat → Int) : Prop := (KQ T ∧ SQ T) ∧ T 26 = k + 1 ∧ 0 ≤ k
theorem ki_fg {k i : Int} {T : Nat → Int} (hq : fgB f n i = true) (h0 : (fgS f n i).1 = 0) (h : KI k T) : KI k (fgC f n k i T) := by
  obtain ⟨⟨⟨a0, a1⟩, s1, s2⟩, e, k0⟩ := h
  have hk : 0 ≤ k ∧ k < 8 := by omega
  unfold fgC
  by_cases t1 : tkF f n i = 1005
  · rw [if_pos t1]
    have r : 0 ≤ tkF f n (nxF f n i) ∧ tkF f n (nxF f n i) ≤ 9 := nu_r f n (by unfold fgS at h0; rw [if_pos t1] at h0; exact h0)
    have o : ∀ j : Nat, j ≠ (41 + k).toNat → uT T (41 + k).toNat (tkF f n (nxF f n i)) j = T j := fun j hj => uT_o hj
    refine ⟨⟨⟨by rw [o 26 (by omega)]; exact a0, fun j h1 h2 => ?_⟩, ?_, ?_⟩, by rw [o 26 (by omega)]; exact e, k0⟩
    · rw [o 26 (by omega)] at h2
      rw [o (33 + j).toNat (by omega)]
      by_cases c : j = k
      · subst c; rw [uT_s]; exact ⟨(a1 j h1 h2).1, r⟩
      · rw [o (41 + j).toNat (by omega)]; exact a1 j h1 h2
    · rw [o 26 (by omega), o 27 (by omega)]; exact s1
    · rw [o 26 (by omega), o 28 (by omega)]; exact s2
  · rw [if_neg t1]
    by_cases t2 : tkF f n i = 1007
    · rw [if_pos t2]
      have o : ∀ j : Nat, j ≠ 27 → uT T 27 (orI (T 27) (pw2 k)) j = T j := fun j hj => uT_o hj
      refine ⟨⟨⟨by rw [o 26 (by omega)]; exact a0, fun j h1 h2 => ?_⟩, ?_, ?_⟩, by rw [o 26 (by omega)]; exact e, k0⟩
      · rw [o 26 (by omega)] at h2
        rw [o (33 + j).toNat (by omega), o (41 + j).toNat (by omega)]; exact a1 j h1 h2
      · rw [o 26 (by omega), uT_s, e]; exact or_q hk (by rw [e] at s1; exact s1)
      · rw [o 26 (by omega), o 28 (by omega)]; exact s2
    · rw [if_neg t2]
      by_cases t3 : tkF f n i = 1012
      · rw [if_pos t3]
        have o : ∀ j : Nat, j ≠ 28 → uT T 28 (orI (T 28) (pw2 k)) j = T j := fun j hj => uT_o hj
        refine ⟨⟨⟨by rw [o 26 (by omega)]; exact a0, fun j h1 h2 => ?_⟩, ?_, ?_⟩, by rw [o 26 (by omega)]; exact e, k0⟩
        · rw [o 26 (by omega)] at h2
          rw [o (33 + j).toNat (by omega), o (41 + j).toNat (by omega)]; exact a1 j h1 h2
        · rw [o 26 (by omega), o 27 (by omega)]; exact s1
        · rw [o 26 (by omega), uT_s, e]; exact or_q hk (by rw [e] at s2; exact s2)
      · rw [if_neg t3]; exact ⟨⟨⟨a0, a1⟩, s1, s2⟩, e, k0⟩
theorem ki_b {k p : Int} {T : Nat → Int} (h : KQ T ∧ SQ T) (hk : k = T 26 ∧ k < 8) (hp : (nuP f n 1 99 p).1 = 0) : KI k (kiB f n k p T) := by
  obtain ⟨⟨a0, a1⟩, s1, s2⟩ := h
  have r := nu_r f n hp
  have m := (pw_m k.toNat (by omega)).1
  rw [show ((k.toNat : Nat) : Int) = k by omega] at m
  rw [← hk.1] at s1 s2
  have e : kiB f n k p T 26 = k + 1 := by unfold kiB; exact uT_s
  have o : ∀ j : Nat, j ≠ 26 → j ≠ (41 + k).toNat → j ≠ (33 + k).toNat → kiB f n k p T j = T j := fun j h1 h2 h3 => by unfold kiB; rw [uT_o h1, uT_o h2, uT_o h3]
  have v41 : kiB f n k p T (41 + k).toNat = 0 := by unfold kiB; rw [uT_o (by omega), uT_s]
  have v33 : kiB f n k p T (33 + k).toNat = tkF f n p := by unfold kiB; rw [uT_o (by omega), uT_o (by omega), uT_s]
  refine ⟨⟨⟨by rw [e]; omega, fun j h1 h2 => ?_⟩, ?_, ?_⟩, e, by omega⟩
  · by_cases c : j = k
    · rw [c, v33, v41]; omega
    · rw [e] at h2
      rw [o (33 + j).toNat (by omega) (by omega) (by omega), o (41 + j).toNat (by omega) (by omega) (by omega)]; exact a1 j h1 (by omega)
  · rw [e, o 27 (by omega) (by omega) (by omega)]; exact ⟨s1.1, by omega⟩
  · rw [e, o 28 (by omega) (by omega) (by omega)]; exact ⟨s2.1, by omega⟩
theorem kiC_o {k i : Int} (hk : 0 ≤ k ∧ k < 8) {T : Nat → Int} {j : Nat} (hj : j < 26 ∨ (28 < j ∧ j < 33) ∨ 49 ≤ j) : kiC f n k i T j = T j := by
  unfold kiC
  rw [fgT_o f n (by omega) (by omega)]
  unfold kiB
  rw [uT_o (by omega), uT_o (by omega), uT_o (by omega)]
theorem kq_ki {k i : Int} {T : Nat → Int} (h : KQ T ∧ SQ T) (hk : k = T 26) (hp : (kiP f n k i).1 = 0) : k < 8 ∧ KQ (kiC f n k i T) ∧ SQ (kiC f n k i T) := by
  unfold kiP at hp
  by_cases c : 8 ≤ k
  · rw [if_pos c] at hp; exact absurd hp (fa_0 f n (by decide))
  · rw [if_neg c] at hp
    have q := sq_0 hp
    have q2 : (nuP f n 1 99 (exP f n 1004 (nxF f n i)).2.2).1 = 0 := (sq_0 (F := fgP f n) q.2).1
    refine ⟨by omega, ?_⟩
    have := lpT_i (P := KI k) (GT := fgC f n k) (fun i T a b x => ki_fg f n a b x) (n + 1 - (nuP f n 1 99 (exP f n 1004 (nxF f n i)).2.2).2.2).toNat (nuP f n 1 99 (exP f n 1004 (nxF f n i)).2.2).2.2 _ (ki_b f n h ⟨hk, by omega⟩ q2)
    exact this.1
/-- while a buyer's marks are read -/
def BI (b : Int) (T : Nat → Int) : Prop := BQ T ∧ T 1 = b + 1 ∧ 0 ≤ b
theorem bi_mk {b i : Int} {T : Nat → Int} (h0 : (nuP f n 0 9 (nxF f n i)).1 = 0) (h : BI b T) : BI b (mkC f n b i T) := by
  obtain ⟨⟨a0, a1⟩, e, k0⟩ := h
  have r := nu_r f n h0
  unfold mkC
  by_cases t1 : tkF f n i = 1002
  · rw [if_pos t1]
    have o : ∀ j : Nat, j ≠ (14 + b).toNat → uT T (14 + b).toNat (tkF f n (nxF f n i)) j = T j := fun j hj => uT_o hj
    refine ⟨⟨by rw [o 1 (by omega)]; exact a0, fun j h1 h2 => ?_⟩, by rw [o 1 (by omega)]; exact e, k0⟩
    rw [o 1 (by omega)] at h2
    rw [o (8 + j).toNat (by omega), o (20 + j).toNat (by omega)]
    by_cases c : j = b
    · subst c; rw [uT_s]; exact ⟨(a1 j h1 h2).1, r, (a1 j h1 h2).2.2⟩
    · rw [o (14 + j).toNat (by omega)]; exact a1 j h1 h2
  · rw [if_neg t1]
    by_cases t2 : tkF f n i = 1013
    · rw [if_pos t2]
      have o : ∀ j : Nat, j ≠ (20 + b).toNat → uT T (20 + b).toNat (tkF f n (nxF f n i)) j = T j := fun j hj => uT_o hj
      refine ⟨⟨by rw [o 1 (by omega)]; exact a0, fun j h1 h2 => ?_⟩, by rw [o 1 (by omega)]; exact e, k0⟩
      rw [o 1 (by omega)] at h2
      rw [o (8 + j).toNat (by omega), o (14 + j).toNat (by omega)]
      by_cases c : j = b
      · subst c; rw [uT_s]; exact ⟨(a1 j h1 h2).1, (a1 j h1 h2).2.1, r⟩
      · rw [o (20 + j).toNat (by omega)]; exact a1 j h1 h2
    · rw [if_neg t2]; exact ⟨⟨a0, a1⟩, e, k0⟩
theorem bi_b {b p : Int} {T : Nat → Int} (h : BQ T) (hk : b = T 1 ∧ b < 6) (hp : (nuP f n 0 999 p).1 = 0) : BI b (buB f n b p T) := by
  obtain ⟨a0, a1⟩ := h
  have r := nu_r f n hp
  have e : buB f n b p T 1 = b + 1 := by unfold buB; exact uT_s
  have o : ∀ j : Nat, j ≠ 1 → j ≠ (20 + b).toNat → j ≠ (14 + b).toNat → j ≠ (8 + b).toNat → buB f n b p T j = T j := fun j h1 h2 h3 h4 => by unfold buB; rw [uT_o h1, uT_o h2, uT_o h3, uT_o h4]
  have v20 : buB f n b p T (20 + b).toNat = 1 := by unfold buB; rw [uT_o (by omega), uT_s]
  have v14 : buB f n b p T (14 + b).toNat = 0 := by unfold buB; rw [uT_o (by omega), uT_o (by omega), uT_s]
  have v8 : buB f n b p T (8 + b).toNat = tkF f n p := by unfold buB; rw [uT_o (by omega), uT_o (by omega), uT_o (by omega), uT_s]
  refine ⟨⟨by rw [e]; omega, fun j h1 h2 => ?_⟩, e, by omega⟩
  by_cases c : j = b
  · rw [c, v8, v14, v20]; omega
  · rw [e] at h2
    rw [o (8 + j).toNat (by omega) (by omega) (by omega) (by omega), o (14 + j).toNat (by omega) (by omega) (by omega) (by omega), o (20 + j).toNat (by omega) (by omega) (by omega) (by omega)]; exact a1 j h1 (by omega)
theorem buC_o {b i : Int} (hb : 0 ≤ b ∧ b < 6) {T : Nat → Int} {j : Nat} (hj : j = 0 ∨ (1 < j ∧ j < 8) ∨ 26 ≤ j) : buC f n b i T j = T j := by
  unfold buC
  rw [mkT_o f n (by omega)]
  unfold buB
  rw [uT_o (by omega), uT_o (by omega), uT_o (by omega), uT_o (by omega)]
theorem bq_bu {b i : Int} {T : Nat → Int} (h : BQ T) (hk : b = T 1) (hp : (buP f n b i).1 = 0) : b < 6 ∧ BQ (buC f n b i T) := by
  unfold buP at hp
  by_cases c : 6 ≤ b
  · rw [if_pos c] at hp; exact absurd hp (fa_0 f n (by decide))
  · rw [if_neg c] at hp
    have q := sq_0 hp
    have q2 : (nuP f n 0 999 (exP f n 1001 (nxF f n i)).2.2).1 = 0 := (sq_0 (F := luP f n 1002 1013 (nuP f n 0 9)) q.2).1
    refine ⟨by omega, ?_⟩
    have := lpT_i (P := BI b) (q := tqB f n 1002 1013) (st := fun j => nuP f n 0 9 (nxF f n j)) (GT := mkC f n b) (fun i T a z x => bi_mk f n z x) (n + 1 - (nuP f n 0 999 (exP f n 1001 (nxF f n i)).2.2).2.2).toNat (nuP f n 0 999 (exP f n 1001 (nxF f n i)).2.2).2.2 _ (bi_b f n h ⟨hk, by omega⟩ q2)
    exact this.1
/-- a law's line -/
theorem lwC_v {l : Nat} (hl : l ≤ 1) {L : List Int} {T : Nat → Int} (h : 0 ≤ T 280) {j : Nat} (hj : j ≠ 2 + l ∧ j ≠ 4 + l ∧ j ≠ 6 + l) (hk : j < 280 ∨ (281 ≤ j ∧ (j : Int) < 281 + T 280)) : lwC l L T j = T j := by
  unfold lwC
  rw [uT_o hj.2.2, uT_o hj.2.1, uT_o hj.1]
  rcases hk with c | c
  · exact emL_o L T h c
  · exact (emL_v L T h).1 j c.1 c.2
theorem lwC_280 {l : Nat} (hl : l ≤ 1) (L : List Int) (T : Nat → Int) : lwC l L T 280 = T 280 + (L.length : Int) := by
  rw [lwC_o hl L T (by omega), emL_280]
theorem rw_lw {l : Nat} (hl : l ≤ 1) {L : List Int} {T : Nat → Int} (h : RWQ T) (g : GLQ l L) : RWQ (lwC l L T) := by
  obtain ⟨h1, h2, h3, h4⟩ := h
  have z := h4.1
  refine ⟨kq_o h1 (fun j a b => lwC_v hl z (by omega) (by omega)), bq_o h2 (fun j a => lwC_v hl z (by omega) (by omega)), ?_, ?_⟩
  · have own : WQ l (lwC l L T) := by
      refine Or.inr ⟨?_, ?_, ?_, L, g, ?_, fun i hi => ?_⟩
      · unfold lwC; rw [uT_o (by omega), uT_o (by omega), uT_s]
      · rw [show lwC l L T (4 + l) = T 280 by unfold lwC; rw [uT_o (by omega), uT_s]]; exact z
      · rw [show lwC l L T (4 + l) = T 280 by unfold lwC; rw [uT_o (by omega), uT_s], show lwC l L T (6 + l) = emL L T 280 - T 280 by unfold lwC; rw [uT_s], lwC_280 hl, emL_280]; omega
      · rw [show lwC l L T (6 + l) = emL L T 280 - T 280 by unfold lwC; rw [uT_s], emL_280]; omega
      · rw [show lwC l L T (4 + l) = T 280 by unfold lwC; rw [uT_o (by omega), uT_s], lwC_o hl L T (by omega)]
        exact (emL_v L T z).2 i hi
    have oth : ∀ m : Nat, m ≤ 1 → m ≠ l → WQ m T → WQ m (lwC l L T) := fun m hm hne w => by
      have e2 : lwC l L T (2 + m) = T (2 + m) := lwC_v hl z (by omega) (by omega)
      have e4 : lwC l L T (4 + m) = T (4 + m) := lwC_v hl z (by omega) (by omega)
      have e6 : lwC l L T (6 + m) = T (6 + m) := lwC_v hl z (by omega) (by omega)
      unfold WQ
      rw [e2, e4, e6, lwC_280 hl]
      rcases w with w | ⟨w1, w2, w3, K, w4, w5, w6⟩
      · exact Or.inl w
      · refine Or.inr ⟨w1, w2, by omega, K, w4, w5, fun i hi => ?_⟩
        rw [lwC_v hl z (by omega) (by omega)]; exact w6 i hi
    rcases (show l = 0 ∨ l = 1 by omega) with rfl | rfl
    · exact ⟨own, oth 1 (by decide) (by decide) h3.2⟩
    · exact ⟨oth 0 (by decide) (by decide) h3.1, own⟩
  · refine ⟨by rw [lwC_280 hl]; omega, ?_, ?_, ?_, ?_, ?_⟩
    · rw [lwC_v hl z (by omega) (by omega)]; exact h4.2.1
    · rw [lwC_v hl z (by omega) (by omega)]; exact h4.2.2.1
    · rw [lwC_v hl z (by omega) (by omega)]; exact h4.2.2.2.1
    · rw [lwC_v hl z (by omega) (by omega)]; exact h4.2.2.2.2.1
    · rw [lwC_v hl z (by omega) (by omega)]; exact h4.2.2.2.2.2
theorem ex_r {t i : Int} (h : (exP f n t i).1 = 0) : (exP f n t i).2.2 = nxF f n i := by
  have a := exP_s f n t i
  have b := flP_s f n i 2
  omega
/-- a line -/
theorem rw_li {k b i : Int} {T : Nat → Int} (h : RWQ T) (hk : k = T 26 ∧ b = T 1) (hp : (liP f n k b i).1 = 0) : RWQ (liC f n k b i T) ∧ liC f n k b i T 26 = inc (tkF f n i) 1003 k ∧ liC f n k b i T 1 = inc (tkF f n i) 1009 b := by
  obtain ⟨h1, h2, h3, h4⟩ := h
  have i1 := inc_s (tkF f n i) 1003 k
  have i2 := inc_s (tkF f n i) 1009 b
  unfold liC
  unfold liP at hp
  by_cases t1 : tkF f n i = 1003
  · rw [if_pos t1] at hp ⊢
    obtain ⟨k8, q⟩ := kq_ki f n h1 hk.1 hp
    have k0 := h1.1.1
    have o : ∀ j : Nat, j < 26 ∨ (28 < j ∧ j < 33) ∨ 49 ≤ j → kiC f n k i T j = T j := fun j hj => kiC_o f n (by omega) hj
    refine ⟨⟨q, bq_o h2 (fun j hj => o j (by omega)), ⟨wq_o (by decide) h3.1 (fun j hj => o j (by omega)), wq_o (by decide) h3.2 (fun j hj => o j (by omega))⟩, zq_o h4 (fun j hj => o j (by omega))⟩, ?_, ?_⟩
    · have : kiC f n k i T 26 = k + 1 := by
        unfold kiC; rw [fgT_o f n (by omega) (by omega)]; unfold kiB; exact uT_s
      omega
    · rw [o 1 (by omega)]; omega
  · rw [if_neg t1] at hp ⊢
    by_cases t2 : tkF f n i = 1009
    · rw [if_pos t2] at hp ⊢
      obtain ⟨b6, q⟩ := bq_bu f n h2 hk.2 hp
      have b0 := h2.1
      have o : ∀ j : Nat, j = 0 ∨ (1 < j ∧ j < 8) ∨ 26 ≤ j → buC f n b i T j = T j := fun j hj => buC_o f n (by omega) hj
      refine ⟨⟨kq_o h1 (fun j a c => o j (by omega)), q, ⟨wq_o (by decide) h3.1 (fun j hj => o j (by omega)), wq_o (by decide) h3.2 (fun j hj => o j (by omega))⟩, zq_o h4 (fun j hj => o j (by omega))⟩, ?_, ?_⟩
      · rw [o 26 (by omega)]; omega
      · have : buC f n b i T 1 = b + 1 := by
          unfold buC; rw [mkT_o f n (by omega)]; unfold buB; exact uT_s
        omega
    · rw [if_neg t2] at hp ⊢
      by_cases t3 : tkF f n i = 1010
      · rw [if_pos t3] at hp ⊢
        have q := sq_0 hp
        have e := ex_r f n q.1
        have nn := nx_0 f n (nxF f n i)
        have g : GLQ 0 (sLR f n 6 (exP f n 2058 (nxF f n i)).2.2) := ⟨⟨(sLR_x f n 6 _ (by omega) q.2).m (by decide), sLR_v f n 6 _ (by omega) q.2⟩, fun z => absurd z (by decide)⟩
        refine ⟨rw_lw (by decide) ⟨h1, h2, h3, h4⟩ g, ?_, ?_⟩
        · show lwC 0 _ T 26 = _
          rw [lwC_v (by decide) h4.1 (by decide) (Or.inl (by decide))]; omega
        · show lwC 0 _ T 1 = _
          rw [lwC_v (by decide) h4.1 (by decide) (Or.inl (by decide))]; omega
      · rw [if_neg t3] at hp ⊢
        by_cases t4 : tkF f n i = 1011
        · rw [if_pos t4] at hp ⊢
          have q := sq_0 hp
          have e := ex_r f n q.1
          have nn := nx_0 f n (nxF f n i)
          have g : GLQ 1 (trL f n (unR f n 6) (uLR f n 6) (exP f n 2058 (nxF f n i)).2.2) := ⟨⟨(tr_x f n (m := 4 + 2 * ((6 : Nat) : Int)) (by decide) (fun j hj z => uLR_x f n 6 j hj z) _ (by omega) q.2).m (by decide), va_b (tr_v f n (fun j hj z => uLR_v f n 6 j hj z) _ (by omega) q.2)⟩, fun _ => tr_v f n (fun j hj z => uLR_v f n 6 j hj z) _ (by omega) q.2⟩
          refine ⟨rw_lw (by decide) ⟨h1, h2, h3, h4⟩ g, ?_, ?_⟩
          · show lwC 1 _ T 26 = _
            rw [lwC_v (by decide) h4.1 (by decide) (Or.inl (by decide))]; omega
          · show lwC 1 _ T 1 = _
            rw [lwC_v (by decide) h4.1 (by decide) (Or.inl (by decide))]; omega
        · rw [if_neg t4] at hp; exact absurd hp (fa_0 f n (by decide))
theorem rw_0 {T : Nat → Int} (h : RWQ T) (v : Int) : RWQ (uT T 0 v) := by
  have o : ∀ j : Nat, j ≠ 0 → uT T 0 v j = T j := fun j hj => uT_o hj
  exact ⟨kq_o h.1 (fun j a b => o j (by omega)), bq_o h.2.1 (fun j hj => o j (by omega)), ⟨wq_o (by decide) h.2.2.1.1 (fun j hj => o j (by omega)), wq_o (by decide) h.2.2.1.2 (fun j hj => o j (by omega))⟩, zq_o h.2.2.2 (fun j hj => o j (by omega))⟩
theorem rw_mn : ∀ (m : Nat) (i k b : Int) (T : Nat → Int), RWQ T → k = T 26 ∧ b = T 1 → RWQ (mnC f n m i k b T)
  | 0, _, _, _, _, h, _ => h
  | m + 1, i, k, b, T, h, hk => by
    rw [mnC]
    by_cases z : tkF f n i = 3001
    · rw [if_pos z]; exact h
    · rw [if_neg z]
      by_cases y : (lnP f n k b i).1 = 0
      · rw [if_pos y]
        obtain ⟨a, c, d⟩ := rw_li f n h hk (sq_0 y).1
        refine rw_mn m _ _ _ _ (rw_0 a _) ⟨?_, ?_⟩
        · show _ = uT _ 0 _ 26; rw [uT_o (by decide)]; exact c.symm
        · show _ = uT _ 0 _ 1; rw [uT_o (by decide)]; exact d.symm
      · rw [if_neg y]; exact h
/-- a told shop's row -/
theorem rw_rd : RWQ (rdC f n) := rw_mn f n _ _ _ _ T0 ⟨⟨⟨by decide, fun k h1 h2 => absurd (show k < 0 from h2) (by omega)⟩, by decide, by decide⟩, ⟨by decide, fun k h1 h2 => absurd (show k < 0 from h2) (by omega)⟩, ⟨Or.inl rfl, Or.inl rfl⟩, by decide, rfl, rfl, rfl, rfl, rfl⟩ ⟨rfl, rfl⟩
end RP
/-! a list of codes as it stands in a row -/
theorem dq_l {f : Nat → Int32} {o : Int} : ∀ (L : List Int) (a : Nat), (∀ i : Nat, i < L.length → (f (o + ((a + i : Nat) : Int)).toNat).toInt = L.getD i 0) → dqF f o (a + L.length) = dpL L (dqF f o a)
  | [], _, _ => rfl
  | c :: L, a, h => by
    have c0 : (f (o + ((a : Nat) : Int)).toNat).toInt = c := h 0 (by simp)
    have e : dqF f o (a + 1) = dpS c (dqF f o a) := by rw [dqF, c0]; rfl
    have := dq_l (f := f) (o := o) L (a + 1) (fun i hi => by have := h (i + 1) (by simpa using hi); rw [show a + 1 + i = a + (i + 1) by omega]; rw [this]; rfl)
    rw [e] at this
    rw [show a + (c :: L).length = a + 1 + L.length by simp; omega, this]
    rfl
theorem ok_l {f : Nat → Int32} {o B : Int} : ∀ (L : List Int) (a : Nat), (∀ i : Nat, i < L.length → (f (o + ((a + i : Nat) : Int)).toNat).toInt = L.getD i 0) → okL B L (dqF f o a) → ∀ i : Nat, i < L.length → okc (f (o + ((a + i : Nat) : Int)).toNat).toInt (dqF f o (a + i)) ∧ dqF f o (a + i + 1) ≤ B
  | [], _, _, _, i, hi => absurd hi (by simp)
  | c :: L, a, h, k, i, hi => by
    have c0 : (f (o + ((a : Nat) : Int)).toNat).toInt = c := h 0 (by simp)
    have e : dqF f o (a + 1) = dpS c (dqF f o a) := by rw [dqF, c0]; rfl
    cases i with
    | zero => exact ⟨by rw [show a + 0 = a from rfl, c0]; exact k.1, by rw [show a + 0 + 1 = a + 1 from rfl, e]; exact k.2.1⟩
    | succ i =>
      have := ok_l (f := f) (o := o) (B := B) L (a + 1) (fun i hi => by have := h (i + 1) (by simpa using hi); rw [show a + 1 + i = a + (i + 1) by omega]; rw [this]; rfl) (by rw [e]; exact k.2.2) i (by simpa using hi)
      rw [show a + 1 + i = a + (i + 1) by omega] at this
      exact this
theorem rk_l {f : Nat → Int32} {W : Nat → Int} {o : Int} : ∀ (L : List Int) (a : Nat), (∀ i : Nat, i < L.length → (f (o + ((a + i : Nat) : Int)).toNat).toInt = L.getD i 0) → rkS f W o (a + L.length) = rkL W L (rkS f W o a)
  | [], _, _ => rfl
  | c :: L, a, h => by
    have c0 : (f (o + ((a : Nat) : Int)).toNat).toInt = c := h 0 (by simp)
    have e : rkS f W o (a + 1) = rkT W c (rkS f W o a) := by rw [rkS, c0]
    have := rk_l (f := f) (W := W) (o := o) L (a + 1) (fun i hi => by have := h (i + 1) (by simpa using hi); rw [show a + 1 + i = a + (i + 1) by omega]; rw [this]; rfl)
    rw [e] at this
    rw [show a + (c :: L).length = a + 1 + L.length by simp; omega, this]
    rfl
theorem cw_l {f : Nat → Int32} {o m : Int} {L : List Int} (h : ∀ i : Nat, i < L.length → (f (o + (i : Int)).toNat).toInt = L.getD i 0) (g : EXQ m L) (hm : m ≤ 64) : zwS f o (L.length : Int) ∧ (∀ i : Nat, (i : Int) ≤ (L.length : Int) → dqF f o i ≤ 64) ∧ dqF f o ((L.length : Int)).toNat = 1 := by
  have h' : ∀ i : Nat, i < L.length → (f (o + ((0 + i : Nat) : Int)).toNat).toInt = L.getD i 0 := fun i hi => by rw [Nat.zero_add]; exact h i hi
  obtain ⟨a, b⟩ := g 0 64 (by decide) (by omega)
  have k := ok_l (f := f) (o := o) (B := 64) L 0 h' a
  refine ⟨fun i hi => ?_, fun i hi => ?_, ?_⟩
  · have := (k i (by omega)).1
    rw [Nat.zero_add] at this; exact this
  · cases i with
    | zero => rw [show dqF f o 0 = 0 from rfl]; decide
    | succ i =>
      have := (k i (by omega)).2
      rw [Nat.zero_add] at this; exact this
  · have := dq_l (f := f) (o := o) L 0 h'
    rw [Nat.zero_add] at this
    rw [Int.toNat_natCast, this, show dqF f o 0 = 0 from rfl, b]
    rfl
theorem bt_l {f : Nat → Int32} {o : Int} {L : List Int} (h : ∀ i : Nat, i < L.length → (f (o + (i : Int)).toNat).toInt = L.getD i 0) (g : VBQ L) (W : Nat → Int) : bitQ ((rkS f W o ((L.length : Nat) : Int).toNat).2 0) := by
  have := rk_l (f := f) (W := W) (o := o) L 0 (fun i hi => by rw [Nat.zero_add]; exact h i hi)
  rw [Nat.zero_add] at this
  rw [Int.toNat_natCast, this]
  exact (g W (rkS f W o 0) (by rw [show rkS f W o 0 = (0, fun _ => 0) from rfl]; exact Int.le_refl 0)).2.2
