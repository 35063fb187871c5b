/-! choice -/
theorem md_h (M : mm_M) (p : Nat) (h g : Int32) {j : Nat} (hj : ¬ j = 28) : mdX M p h j = mdX M p g j := by
  unfold mdX clX
  rw [if_neg hj, if_neg hj]
theorem wdO_h (M : mm_M) (p : Nat) (h g : Int32) {b k : Int} (hb : 0 ≤ b ∧ b < 6) (hk : 0 ≤ k ∧ k < 8) (o w : Int) : wdO (mdX M p h) b k o w = wdO (mdX M p g) b k o w := by
  funext j
  unfold wdO
  rw [md_h M p h g (j := (8 + b).toNat) (by omega), md_h M p h g (j := (14 + b).toNat) (by omega), md_h M p h g (j := (33 + k).toNat) (by omega), md_h M p h g (j := (41 + k).toNat) (by omega)]
theorem rkO_h (M : mm_M) (p : Nat) (h g : Int32) {l : Nat} (hl : l < 2) {b k : Int} (hb : 0 ≤ b ∧ b < 6) (hk : 0 ≤ k ∧ k < 8) (h0 : 0 ≤ (mdX M p g (4 + l)).toInt) (o w : Int) : rkO (mdX M p h) l b k o w = rkO (mdX M p g) l b k o w := by
  unfold rkO
  rw [md_h M p h g (j := 4 + l) (by omega), md_h M p h g (j := 6 + l) (by omega), wdO_h M p h g hb hk, rkS_c (fun i hi => md_h M p h g (by omega))]
theorem apO_h (M : mm_M) (p : Nat) (h g : Int32) {b k : Int} (hb : 0 ≤ b ∧ b < 6) (hk : 0 ≤ k ∧ k < 8) (h4 : 0 ≤ (mdX M p g 4).toInt) (h5 : 0 ≤ (mdX M p g 5).toInt) (o w : Int) : apO (mdX M p h) b k o w = apO (mdX M p g) b k o w := by
  unfold apO ltO wtO
  rw [rkO_h M p h g (l := 0) (by decide) hb hk h4, rkO_h M p h g (l := 1) (by decide) hb hk h5, md_h M p h g (j := 2) (by decide), md_h M p h g (j := 3) (by decide), md_h M p h g (j := (8 + b).toNat) (by omega), md_h M p h g (j := (33 + k).toNat) (by omega)]
theorem apO_s (f : Nat → Int32) (b k o w : Int) : (ltO f b k o w = 1 ∧ 0 ≤ wtO f b k o w ∧ apO f b k o w = wtO f b k o w) ∨ (ltO f b k o w = 1 ∧ wtO f b k o w < 0 ∧ apO f b k o w = 0) ∨ (¬ ltO f b k o w = 1 ∧ apO f b k o w = 0) := by
  unfold apO
  by_cases z : ltO f b k o w = 1
  · rw [if_pos z]
    by_cases y : 0 ≤ wtO f b k o w
    · rw [if_pos y]; exact Or.inl ⟨z, y, rfl⟩
    · rw [if_neg y]; exact Or.inr (Or.inl ⟨z, by omega, rfl⟩)
  · rw [if_neg z]; exact Or.inr (Or.inr ⟨z, rfl⟩)
theorem lt_01 (f : Nat → Int32) (b k o w : Int) : ltO f b k o w = 0 ∨ ltO f b k o w = 1 := by
  unfold ltO
  by_cases z : ((f (33 + k).toNat).toInt ≤ (f (8 + b).toNat).toInt ∧ ((f 3).toInt = 0 ∨ ¬ rkO f 1 b k o w = 0))
  · rw [if_pos z]; exact Or.inr rfl
  · rw [if_neg z]; exact Or.inl rfl
/-- a truth's value is 0 or 1 -/
def BTX (M : mm_M) (p : Nat) : Prop := ∀ b k o w : Int, (0 ≤ b ∧ b < 6) → (0 ≤ k ∧ k < 8) → (M.1 p 9).toInt = (M.1 p 10).toInt ∨ bitQ (rkO (mdX M p 0) 1 b k o w)
theorem ii_n : ∀ n : Nat, n < 256 → ∀ k : Nat, k < 8 → (iiF (n : Int) (k : Int) = 0 ∧ andI (shrI (n : Int) (k : Int)) 1 = 0) ∨ (iiF (n : Int) (k : Int) = 1 ∧ andI (shrI (n : Int) (k : Int)) 1 = 1) := by decide +kernel
theorem ii_e {a k : Int} (ha : 0 ≤ a ∧ a ≤ 255) (hk : 0 ≤ k ∧ k < 8) : (iiF a k = 0 ∧ andI (shrI a k) 1 = 0) ∨ (iiF a k = 1 ∧ andI (shrI a k) 1 = 1) := by
  have := ii_n a.toNat (by omega) k.toNat (by omega)
  rw [show ((a.toNat : Nat) : Int) = a by omega, show ((k.toNat : Nat) : Int) = k by omega] at this
  exact this
theorem boX_st (M : mm_M) (p : Nat) {b k s h : Int} (hb : 0 ≤ b ∧ b < 6) (hk : 0 ≤ k ∧ k < 8) (hh : 0 ≤ h ∧ h ≤ 255) (ht : b01 (BTX M p) = 1) (h4 : 0 ≤ (M.1 p 7).toInt) (h5 : 0 ≤ (M.1 p 9).toInt) (h0 : 0 ≤ (boS (mdX M p (sI h)) b s k.toNat).2) (hs : ¬ shF (mdX M p (sI h)) s = 1) : ((andI (shrI h k) 1 = 0 ∧ (boS (mdX M p (sI h)) b s k.toNat).2 < apO (mdX M p 0) b k (bsF s (8 : Int).toNat) (andI (shrI s k) 1)) ∧ (boS (mdX M p (sI h)) b s (k + 1).toNat).1 = k ∧ (boS (mdX M p (sI h)) b s (k + 1).toNat).2 = apO (mdX M p 0) b k (bsF s (8 : Int).toNat) (andI (shrI s k) 1)) ∨ (¬ (andI (shrI h k) 1 = 0 ∧ (boS (mdX M p (sI h)) b s k.toNat).2 < apO (mdX M p 0) b k (bsF s (8 : Int).toNat) (andI (shrI s k) 1)) ∧ (boS (mdX M p (sI h)) b s (k + 1).toNat).1 = (boS (mdX M p (sI h)) b s k.toNat).1 ∧ (boS (mdX M p (sI h)) b s (k + 1).toNat).2 = (boS (mdX M p (sI h)) b s k.toNat).2) := by
  have m28 : (mdX M p (sI h) 28).toInt = h := by rw [(md_lo M p (sI h)).2.2.2.2.2.2.2, sI_t (by omega)]
  have hbit : (mdX M p (sI h) 3).toInt = 0 ∨ bitQ (rkF (mdX M p (sI h)) 1 b k s) := by
    rw [rkO_e, rkO_h M p (sI h) 0 (l := 1) (by decide) hb hk h5]
    rcases b01_e ht b k (bsF s (8 : Int).toNat) (andI (shrI s k) 1) hb hk with q | q
    · left; rw [(md_lo M p (sI h)).2.1]; exact i32_ite.mpr q
    · exact Or.inr q
  have r := bo_ap (mdX M p (sI h)) b k s hk.1 hbit h0 hs
  rw [m28, apO_h M p (sI h) 0 hb hk h4 h5] at r
  have e : (iiF h k = 0) ↔ (andI (shrI h k) 1 = 0) := by have := ii_e hh hk; omega
  rw [e] at r
  exact r
theorem shX (M : mm_M) (p : Nat) {h s : Int} (hh : 0 ≤ h ∧ h ≤ 255) : (andI (andI (pw2 (M.1 81 6).toInt - 1) (-1 - h)) (-1 - s) = 0 ∧ shF (mdX M p (sI h)) s = 1) ∨ (¬ andI (andI (pw2 (M.1 81 6).toInt - 1) (-1 - h)) (-1 - s) = 0 ∧ shF (mdX M p (sI h)) s = 0) := by
  have r := shF_s (mdX M p (sI h)) s
  unfold snF evF at r
  rw [(md_lo M p (sI h)).2.2.2.2.2.2.1, (md_lo M p (sI h)).2.2.2.2.2.2.2, sI_t (by omega)] at r
  exact r
/-- the cache: what it holds is right -/
def APX (M : mm_M) (p : Nat) : Prop := ∀ k b o w : Int, (0 ≤ k ∧ k < 8) → (0 ≤ b ∧ b < 6) → (0 ≤ o ∧ o ≤ 8) → (0 ≤ w ∧ w ≤ 1) → (M.1 83 k.toNat).toInt = 0 ∨ (M.1 82 (k * 108 + (b * 9 + o) * 2 + w).toNat).toInt = -1 ∨ (M.1 82 (k * 108 + (b * 9 + o) * 2 + w).toNat).toInt = apO (mdX M p 0) b k o w
theorem ap_get {M : mm_M} {p : Nat} {k b o w x : Int} (h : b01 (APX M p) = 1) (hk : (0 ≤ k ∧ k < 8) ∧ (0 ≤ b ∧ b < 6) ∧ (0 ≤ o ∧ o ≤ 8) ∧ (0 ≤ w ∧ w ≤ 1)) (hx : x = k * 108 + (b * 9 + o) * 2 + w) : (M.1 83 k.toNat).toInt = 0 ∨ (M.1 82 x.toNat).toInt = -1 ∨ (M.1 82 x.toNat).toInt = apO (mdX M p 0) b k o w := by
  subst hx; exact b01_e h k b o w hk.1 hk.2.1 hk.2.2.1 hk.2.2.2
theorem ap_fr {S : List Nat} {M N : mm_M} {p : Nat} (hf : FX S M N) (hS : ∀ i ∈ S, i = 85 ∨ i = 86) (cp : s_c p = 6) (h : b01 (APX M p) = 1) : b01 (APX N p) = 1 := b01_i (by
  intro k b o w hk hb ho hw
  rw [hf.cell (i := 83) (fun z => by have := hS 83 z; omega), hf.cell (i := 82) (fun z => by have := hS 82 z; omega), md_fr hf (fun i z => by have := hS i z; omega) cp]
  exact b01_e h k b o w hk hb ho hw)
theorem ap_set {M M' : mm_M} {p : Nat} {k b o w x v : Int} (e : M' = wI M 82 x.toNat (sI v)) (cp : s_c p = 6) (h : b01 (APX M p) = 1) (hk : (0 ≤ k ∧ k < 8) ∧ (0 ≤ b ∧ b < 6) ∧ (0 ≤ o ∧ o ≤ 8) ∧ (0 ≤ w ∧ w ≤ 1)) (hx : x = k * 108 + (b * 9 + o) * 2 + w) (hv : (-2147483648 ≤ v ∧ v ≤ 2147483647) ∧ v = apO (mdX M p 0) b k o w) : b01 (APX M' p) = 1 := b01_i (by
  intro k' b' o' w' hk' hb' ho' hw'
  have md : mdX M' p 0 = mdX M p 0 := md_fr (S := [82]) (FX.rf.wI e (by decide)) (by decide) cp 0
  rw [md, wI_cell e (show (83 : Nat) ≠ 82 by decide)]
  by_cases q : k' = k ∧ b' = b ∧ o' = o ∧ w' = w
  · obtain ⟨rfl, rfl, rfl, rfl⟩ := q
    right; right
    rw [← hx, s_wr e hv.1, hv.2]
  · have ne : (k' * 108 + (b' * 9 + o') * 2 + w').toNat ≠ x.toNat := by omega
    rw [show (M'.1 82 (k' * 108 + (b' * 9 + o') * 2 + w').toNat).toInt = (M.1 82 (k' * 108 + (b' * 9 + o') * 2 + w').toNat).toInt from s_fb e ne rfl]
    exact b01_e h k' b' o' w' hk' hb' ho' hw')
/-- every kind has a price -/
def PRX (M : mm_M) : Prop := ∀ k : Int, 0 ≤ k → k < (M.1 81 6).toInt → ¬ (M.1 83 k.toNat).toInt = 0
theorem pr_at {M : mm_M} (h : b01 (PRX M) = 1) (k : Int) : k < 0 ∨ (M.1 81 6).toInt ≤ k ∨ ¬ (M.1 83 k.toNat).toInt = 0 := by
  by_cases a : 0 ≤ k
  · by_cases c : k < (M.1 81 6).toInt
    · exact Or.inr (Or.inr (b01_e h k a c))
    · exact Or.inr (Or.inl (by omega))
  · exact Or.inl (by omega)
theorem ltO_f {S : List Nat} {M N : mm_M} {p : Nat} (hf : FX S M N) (hS : ∀ i ∈ S, i = 82 ∨ i = 85 ∨ i = 86) (cp : s_c p = 6) (b k o w : Int) : ltO (mdX N p 0) b k o w = ltO (mdX M p 0) b k o w ∧ wtO (mdX N p 0) b k o w = wtO (mdX M p 0) b k o w ∧ apO (mdX N p 0) b k o w = apO (mdX M p 0) b k o w := by
  rw [md_fr hf hS cp]; exact ⟨rfl, rfl, rfl⟩
theorem lwx_fr {S : List Nat} {M N : mm_M} {p i j : Nat} (hf : FX S M N) (hS : ∀ i ∈ S, i = 82 ∨ i = 85 ∨ i = 86) (cp : s_c p = 6) (h : b01 (LWX M p i j) = 1) : b01 (LWX N p i j) = 1 := by
  have e : N.1 p = M.1 p := hf.cell (fun z => by
    have c82 : s_c 82 = 33 := rfl
    have c85 : s_c 85 = 36 := rfl
    have c86 : s_c 86 = 37 := rfl
    rcases hS p z with q | q | q
    · rw [q, c82] at cp; cases cp
    · rw [q, c85] at cp; cases cp
    · rw [q, c86] at cp; cases cp)
  unfold LWX
  rw [md_fr hf hS cp, e]; exact h
theorem bo_sh {f : Nat → Int32} {b s : Int} (h : shF f s = 1) : boF f b s = -1 := by unfold boF; rw [bo_shut f b s h]
theorem boX_end (M : mm_M) (p : Nat) (h : Int32) (b s : Int) {k : Int} (hk : 0 ≤ k ∧ k = (M.1 81 6).toInt) : (boS (mdX M p h) b s k.toNat).1 = boF (mdX M p h) b s := bo_end (mdX M p h) b s k ⟨hk.1, Or.inl (by rw [(md_lo M p h).2.2.2.2.2.2.1]; exact hk.2)⟩
