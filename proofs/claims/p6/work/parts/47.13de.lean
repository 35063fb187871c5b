/-! writes to one of the cells of a kind -/
theorem fx_wIc {S T : List Nat} {M N N' : mm_M} {i k c : Nat} {v : Int32} (h : FX S M N) (e : N' = wI N i k v) (hc : s_c i = c) (hw : ∀ i, s_c i = c → i ∈ T) (hT : ∀ x ∈ T, x ∈ S) : FX S M N' := h.wI e (hT i (hw i hc))
theorem fx_wJc {S T : List Nat} {M N N' : mm_M} {i k c : Nat} {v : Int64} (h : FX S M N) (e : N' = wJ N i k v) (hc : s_c i = c) (hw : ∀ i, s_c i = c → i ∈ T) (hT : ∀ x ∈ T, x ∈ S) : FX S M N' := h.wJ e (hT i (hw i hc))
theorem se_id (M : mm_M) (p v : Nat) : seH (rwX M p v) (sI (M.1 v 4).toInt) = rwX M p v := by
  funext j
  unfold seH
  by_cases h : j = 28
  · rw [if_pos h, h, sI_o]; rfl
  · rw [if_neg h]
/-! the ending has at most eight visits -/
def zcF (s : Int) : Int := (1 - iiF s 0) + (1 - iiF s 1) + (1 - iiF s 2) + (1 - iiF s 3) + (1 - iiF s 4) + (1 - iiF s 5) + (1 - iiF s 6) + (1 - iiF s 7)
theorem zc_n : ∀ s : Nat, s < 256 → ∀ k : Nat, k < 8 → iiF (s : Int) (k : Int) = 0 → zcF (orI (s : Int) (pw2 (k : Int))) + 1 ≤ zcF (s : Int) := by decide +kernel
theorem zc_o {s k : Int} (h : 0 ≤ s ∧ s ≤ 255 ∧ 0 ≤ k ∧ k ≤ 7) (h2 : iiF s k = 0) : zcF (orI s (pw2 k)) + 1 ≤ zcF s := by
  have := zc_n s.toNat (by omega) k.toNat (by omega)
  rw [show ((s.toNat : Nat) : Int) = s by omega, show ((k.toNat : Nat) : Int) = k by omega] at this
  exact this h2
theorem zc_b : ∀ s : Nat, s < 256 → 0 ≤ zcF (s : Int) ∧ zcF (s : Int) ≤ 8 := by decide +kernel
theorem zc_8 {s : Int} (h : 0 ≤ s ∧ s ≤ 255) : 0 ≤ zcF s ∧ zcF s ≤ 8 := by
  have := zc_b s.toNat (by omega)
  rw [show ((s.toNat : Nat) : Int) = s by omega] at this
  exact this
theorem edN_z {f : Nat → Int32} {a : Int} (hk : (f 26).toInt ≤ 8) (h0 : 0 ≤ (f 26).toInt) : ∀ (m : Nat) (s : Int), 0 ≤ s → s ≤ 255 → edN f a m s = 268435456 ∨ edN f a m s ≤ zcF s
  | 0, s, _, _ => Or.inl rfl
  | m + 1, s, h1, h2 => by
    rw [edN]
    have z := zc_8 (s := s) ⟨h1, h2⟩
    generalize (f 1).toInt.toNat = n
    induction n with
    | zero =>
      rw [edE]
      split
      · exact Or.inr (by omega)
      · exact Or.inl rfl
    | succ n ih =>
      rw [edE]
      unfold stE
      split
      · exact ih
      · split
        · rename_i c d
          have l' := boF_lt f (n : Int) s h0
          have m' : -1 ≤ boF f (n : Int) s := bo_m1g f (n : Int) s
          have l := zc_o (s := s) (k := boF f (n : Int) s) ⟨h1, h2, by omega, by omega⟩ (by omega)
          have u := or_lt (s := s) (k := boF f (n : Int) s) (K := 8) ⟨h1, by show s < 256; omega, by omega, by omega, by omega⟩
          have u2 : orI s (pw2 (boF f (n : Int) s)) < 256 := u.2
          have b := edN_z (a := a) hk h0 m (orI s (pw2 (boF f (n : Int) s))) u.1 (by omega)
          omega
        · exact ih
theorem en_8 {f : Nat → Int32} (a : Int) (hk : 0 ≤ (f 26).toInt ∧ (f 26).toInt ≤ 8) (hs : 0 ≤ (f 27).toInt ∧ (f 27).toInt ≤ 255) : -1 ≤ enF f a ∧ enF f a ≤ 8 := by
  have z := zc_8 hs
  have e := edN_z (a := a) hk.2 hk.1 (256 - (f 27).toInt).toNat (f 27).toInt hs.1 hs.2
  have e' : edF f a (f 27).toInt = 268435456 ∨ edF f a (f 27).toInt ≤ zcF (f 27).toInt := e
  have b := edF_b (a := a) hk hs
  have s := enF_s f a
  omega
/-! the ending's buyers into a tray of the class -/
theorem ct_s {v s : Int} (h : 0 ≤ v ∧ v ≤ 100) : ctF v s = v := by
  have h8 : ∀ n : Nat, n ≤ 100 → i8F (w32 (n : Int)) = (n : Int) ∧ i16F (w32 (n : Int)) = (n : Int) := by decide +kernel
  have a := h8 v.toNat (by omega)
  rw [show ((v.toNat : Nat) : Int) = v by omega] at a
  have c := w32_x (a := v) (by omega)
  have s := ctF_s v s
  omega
def TRL (M N : mm_M) (t : Int) (f : Nat → Int32) (n : Int) : Prop := (∀ q : Nat, q < 4 → ¬ (q : Int) = t → TRQ M N q) ∧ N.1 (s_p0 50 t.toNat) = M.1 (s_p0 50 t.toNat) ∧ N.2.1 (s_p0 (s_p0 50 t.toNat) 0) = lsJ f (M.2.1 (s_p0 (s_p0 50 t.toNat) 0)) 0 n.toNat
theorem trl_0 {S : List Nat} {M N : mm_M} (t : Int) (f : Nat → Int32) (h : FX S M N) (hS : ∀ x ∈ S, s_c x ≠ 9 ∧ s_c x ≠ 29) (ht : 0 ≤ t ∧ t ≤ 3) : b01 (TRL M N t f 0) = 1 := b01_i (by
  have n9 : ∀ q : Nat, q < 4 → s_p0 50 q ∉ S ∧ s_p0 (s_p0 50 q) 0 ∉ S := fun q hq => ⟨fun z => (hS _ z).1 (try_c q hq).1, fun z => (hS _ z).2 (try_c q hq).2⟩
  refine ⟨fun q hq _ => ⟨h.cell (n9 q hq).1, h.cellJ (n9 q hq).2⟩, h.cell (n9 t.toNat (by omega)).1, ?_⟩
  rw [h.cellJ (n9 t.toNat (by omega)).2]
  exact b01_e (ls_0 f _ 0))
theorem trl_s {S : List Nat} {M B N : mm_M} {f : Nat → Int32} {c : Nat} {t n n' v s : Int} (h : b01 (TRL M B t f n) = 1) (hf : FX S B N) (hS : S = [s_p0 (s_p0 50 c) 0]) (ht : t = (c : Int)) (hc : c < 4) (e : N.2.1 (s_p0 (s_p0 50 c) 0) = uJ (B.2.1 (s_p0 (s_p0 50 c) 0)) n.toNat (ctF v s)) (hv : (0 ≤ v ∧ v ≤ 5) ∧ v = roB f (enF f (-1)) n.toNat) (hn : 0 ≤ n ∧ n' = n + 1) : b01 (TRL M N t f n') = 1 := by
  subst ht
  have h := b01_e h
  subst hS
  have d : ∀ q, q < 4 → ∀ c, c < 4 → s_p0 50 q ≠ s_p0 (s_p0 50 c) 0 ∧ (q ≠ c → s_p0 (s_p0 50 q) 0 ≠ s_p0 (s_p0 50 c) 0) := by decide
  have t : ((c : Nat) : Int).toNat = c := by omega
  refine b01_i ⟨fun q hq hn => ?_, ?_, ?_⟩
  · have a := h.1 q hq hn
    have y := d q hq c hc
    exact ⟨(hf.cell (by simpa using y.1)).trans a.1, (hf.cellJ (by simpa using y.2 (by omega))).trans a.2⟩
  · have a := h.2.1
    rw [t] at *
    exact (hf.cell (by simpa using (d c hc c hc).1)).trans a
  · have a := h.2.2
    rw [t] at *
    rw [e, a, ct_s (by omega)]
    funext j
    unfold uJ lsJ
    by_cases q : j = n.toNat
    · rw [if_pos q, if_pos (by omega), hv.2, show j - 0 = n.toNat by omega]
    · rw [if_neg q]
      by_cases q2 : 0 ≤ j ∧ j < 0 + n.toNat
      · rw [if_pos q2, if_pos (by omega)]
      · rw [if_neg q2, if_neg (by omega)]
theorem trl_c {S : List Nat} {M B N : mm_M} {f : Nat → Int32} {t n : Int} (h : b01 (TRL M B t f n) = 1) (hf : FX S B N) (hS : ∀ x ∈ S, s_c x ≠ 9 ∧ s_c x ≠ 29) (ht : 0 ≤ t ∧ t ≤ 3) : b01 (TRL M N t f n) = 1 := b01_i (by
  have h := b01_e h
  have n9 : ∀ q : Nat, q < 4 → s_p0 50 q ∉ S ∧ s_p0 (s_p0 50 q) 0 ∉ S := fun q hq => ⟨fun z => (hS _ z).1 (try_c q hq).1, fun z => (hS _ z).2 (try_c q hq).2⟩
  refine ⟨fun q hq hn => ?_, ?_, ?_⟩
  · have a := h.1 q hq hn
    exact ⟨(hf.cell (n9 q hq).1).trans a.1, (hf.cellJ (n9 q hq).2).trans a.2⟩
  · exact (hf.cell (n9 t.toNat (by omega)).1).trans h.2.1
  · exact (hf.cellJ (n9 t.toNat (by omega)).2).trans h.2.2)
/-- minds tuned keep the cache -/
theorem tn_a {M : mm_M} {p : Nat} {f : Nat → Int32} (h : b01 (TN M p f) = 1) : b01 (APX M p) = 1 := (b01_e h).1.2.2.2.2.2
