/-! the ending's row, of rows alike -/
theorem nb_w {f : Nat → Int32} {s v : Int} : ∀ (n : Nat) (b : Int), 0 ≤ b → (∃ c : Int, b ≤ c ∧ c < b + (n : Int) ∧ c < (f 1).toInt ∧ nbC f s v c) → nbC f s v (nbS f s v n b) ∧ b ≤ nbS f s v n b ∧ nbS f s v n b < (f 1).toInt
  | 0, b, _, w => by
    obtain ⟨c, c0, c1, _⟩ := w
    omega
  | n + 1, b, b0, w => by
    obtain ⟨c, c0, c1, c2, c3⟩ := w
    rw [nbS]
    by_cases z : nbC f s v b
    · rw [if_pos (b01_i z)]; exact ⟨z, Int.le_refl _, by omega⟩
    · rw [if_neg (fun q => z (b01_e q))]
      have y : ¬ c = b := fun y => z (by rw [← y]; exact c3)
      obtain ⟨p, q, r⟩ := nb_w n (b + 1) (by omega) ⟨c, by omega, by omega, c2, c3⟩
      exact ⟨p, by omega, r⟩
theorem or_255 : ∀ k : Nat, k < 8 → ∀ a : Nat, a < 256 → 0 ≤ orI (a : Int) (pw2 (k : Int)) ∧ orI (a : Int) (pw2 (k : Int)) ≤ 255 := by decide +kernel
theorem eq_ro {f g : Nat → Int32} (h : EQR g f) {m : Int} (hm : m = enF f (-1)) (h1 : ¬ m = -1) (h27 : 0 ≤ (f 27).toInt ∧ (f 27).toInt ≤ 255) : ∀ i : Nat, (i : Int) ≤ m → (roS g m i = roS f m i ∧ (0 ≤ roS f m i ∧ roS f m i ≤ 255) ∧ edF f (-1) (roS f m i) = m - (i : Int)) ∧ ((i : Int) < m → roB g m i = roB f m i ∧ 0 ≤ roB f m i ∧ roB f m i < (f 1).toInt)
  | i, hi => by
    have E := enF_s f (-1)
    have A : roS g m i = roS f m i ∧ (0 ≤ roS f m i ∧ roS f m i ≤ 255) ∧ edF f (-1) (roS f m i) = m - (i : Int) := by
      cases i with
      | zero => exact ⟨by rw [roS, roS, (eq_k h).2.1], by rw [roS]; exact h27, by rw [roS]; omega⟩
      | succ i =>
        obtain ⟨⟨a1, a2, a3⟩, b⟩ := eq_ro h hm h1 h27 i (by omega)
        obtain ⟨b1, b2, b3⟩ := b (by omega)
        obtain ⟨c, c0, c1, c2, c3, c4⟩ := b01_e (nxb_0 (f := f) (s := roS f m i) h.2.1 a2 (by omega) h.2.2.1.1)
        have w := nb_w (f := f) (s := roS f m i) (v := m - (i : Int) - 1) 6 0 (by decide) ⟨c, c0, by have := h.2.2.1.2; omega, c1, c2, c3, by omega⟩
        have l := boF_lt f (roB f m i) (roS f m i) h.2.1.1
        have k1 := bo_m1g f (roB f m i) (roS f m i)
        have k2 : ¬ boF f (roB f m i) (roS f m i) = -1 := w.1.1
        have o := or_255 (boF f (roB f m i) (roS f m i)).toNat (by have := h.2.1.2; omega) (roS f m i).toNat (by omega)
        rw [show (((boF f (roB f m i) (roS f m i)).toNat : Nat) : Int) = boF f (roB f m i) (roS f m i) by omega, show (((roS f m i).toNat : Nat) : Int) = roS f m i by omega] at o
        have e : roS f m (i + 1) = orI (roS f m i) (pw2 (boF f (roB f m i) (roS f m i))) := rfl
        have e' : roS g m (i + 1) = orI (roS g m i) (pw2 (boF g (roB g m i) (roS g m i))) := rfl
        refine ⟨by rw [e, e', b1, a1, eq_bo h ⟨b2, b3⟩], by rw [e]; exact o, ?_⟩
        rw [e]
        have := w.1.2.2
        rw [show nbS f (roS f m i) (m - (i : Int) - 1) 6 0 = roB f m i from rfl] at this
        rw [this]; omega
    refine ⟨A, fun hl => ?_⟩
    obtain ⟨a1, a2, a3⟩ := A
    obtain ⟨c, c0, c1, c2, c3, c4⟩ := b01_e (nxb_0 (f := f) (s := roS f m i) h.2.1 a2 (by omega) h.2.2.1.1)
    have wi : nbC f (roS f m i) (m - (i : Int) - 1) c := ⟨c2, c3, by omega⟩
    have w := nb_w (f := f) (s := roS f m i) (v := m - (i : Int) - 1) 6 0 (by decide) ⟨c, c0, by have := h.2.2.1.2; omega, c1, wi⟩
    refine ⟨?_, w.2.1, w.2.2⟩
    unfold roB
    rw [a1]
    exact eq_nb h _ _ 6 0 (by decide) ⟨c, c0, c1, wi⟩
  termination_by i => i
/-- who comes of an ending's i-th visit -/
theorem eq_eb {f g : Nat → Int32} (h : EQR g f) (h27 : 0 ≤ (f 27).toInt ∧ (f 27).toInt ≤ 255) (i : Int) : ebA g i = ebA f i := by
  unfold ebA
  rw [eq_en h]
  by_cases c : i < 0
  · rw [if_pos c, if_pos c]
  · rw [if_neg c, if_neg c]
    by_cases d : i < enF f (-1)
    · rw [if_pos d, if_pos d]
      exact ((eq_ro h rfl (by omega) h27 i.toNat (by omega)).2 (by omega)).1
    · rw [if_neg d, if_neg d]
theorem eq_ls {f g : Nat → Int32} (h : EQR g f) (h27 : 0 ≤ (f 27).toInt ∧ (f 27).toInt ≤ 255) (J : Nat → Int64) (a n : Nat) (hn : (n : Int) ≤ enF f (-1)) : lsJ g J a n = lsJ f J a n := by
  funext j
  unfold lsJ
  by_cases c : a ≤ j ∧ j < a + n
  · rw [if_pos c, if_pos c, eq_en h, ((eq_ro h rfl (by omega) h27 (j - a) (by omega)).2 (by omega)).1]
  · rw [if_neg c, if_neg c]
