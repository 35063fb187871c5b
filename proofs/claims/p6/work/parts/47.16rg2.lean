/-! undone, on both sides -/
theorem uns_v (f : Nat → Int32) {n : Int} (hn : 0 ≤ n ∧ n ≤ (f 49).toInt) (h10 : (f 49).toInt ≤ 10) : (unS f n 49).toInt = (f 49).toInt - n ∧ (∀ j : Nat, 26 ≤ j → j < 49 → unS f n j = kpR f ((f 49).toInt - n).toNat (j - 26)) ∧ ∀ j : Nat, j < 26 ∨ 50 ≤ j → unS f n j = f j := by
  unfold unS unF
  refine ⟨?_, fun j a b => ?_, fun j a => ?_⟩
  · rw [if_neg (by omega), uR_s, sI_t (by omega)]
  · rw [if_pos ⟨a, by omega⟩, uR_n (by omega)]; rfl
  · rw [if_neg (by omega), uR_n (by omega)]
theorem rgt_u {M N : mm_M} {f : Nat → Int32} {n : Int} {v : Nat} (p : Nat) (h : RGT M f) (hr : RGU M N n v) (hn : 1 ≤ n ∧ n ≤ (f 49).toInt) : RGT N (unS f n) ∧ EQS (rwX N p v) (unS f n) ∧ (0 ≤ (unS f n 26).toInt ∧ (unS f n 26).toInt ≤ 8) := by
  obtain ⟨⟨a, b, c⟩, k, q⟩ := h
  obtain ⟨r1, r2, r3, r4⟩ := hr
  obtain ⟨u1, u2, u3⟩ := uns_v f (n := n) (by omega) (by omega)
  have z : ∀ i : Nat, kpR (unS f n) i = kpR f i := fun i => by funext j; exact u3 _ (by omega)
  have t := q ((f 49).toInt - n).toNat (by omega)
  have x : rgI (M.1 18 1).toInt (f 49).toInt ((f 49).toInt - n).toNat = (((M.1 18 1).toInt - n) % 10).toNat := by unfold rgI; omega
  rw [x, ← r4] at t
  have e : ∀ j : Nat, 26 ≤ j → j < 49 → rwX N p v j = skX N v (j - 26) := fun j a b => sk_r N p v ⟨a, b⟩
  have k8 := k ((f 49).toInt - n).toNat (by omega)
  have u26 : unS f n 26 = kpR f ((f 49).toInt - n).toNat 0 := u2 26 (by decide) (by decide)
  refine ⟨⟨⟨by omega, by omega, by omega, by omega⟩, fun i hi => by rw [z]; exact k i (by omega), fun i hi => ?_⟩, ⟨⟨?_, ?_, ?_, ?_, ?_, ?_⟩, fun i i0 i1 => ?_⟩, by rw [u26]; exact k8⟩
  · rw [r3 _ (by unfold rgI; omega), z]
    have y : rgI (N.1 18 1).toInt (unS f n 49).toInt i = rgI (M.1 18 1).toInt (f 49).toInt i := by unfold rgI; omega
    rw [y]
    exact q i (by omega)
  · rw [e 26 (by decide) (by decide), u26]; exact t.1.1
  · rw [e 27 (by decide) (by decide), u2 27 (by decide) (by decide)]; exact t.1.2.1
  · rw [e 28 (by decide) (by decide), u2 28 (by decide) (by decide)]; exact t.1.2.2.1
  · rw [e 29 (by decide) (by decide), u2 29 (by decide) (by decide)]; exact t.1.2.2.2.1
  · rw [e 30 (by decide) (by decide), u2 30 (by decide) (by decide)]; exact t.1.2.2.2.2.1
  · rw [e 32 (by decide) (by decide), u2 32 (by decide) (by decide)]; exact t.1.2.2.2.2.2
  · rw [u26] at i1
    have w := t.2 i i0 i1
    refine ⟨?_, ?_⟩
    · rw [e _ (by omega) (by omega), u2 _ (by omega) (by omega), show (33 + i).toNat - 26 = (7 + i).toNat by omega]; exact w.1
    · rw [e _ (by omega) (by omega), u2 _ (by omega) (by omega), show (41 + i).toNat - 26 = (15 + i).toNat by omega]; exact w.2
/-- a row with its plan's places as they were -/
theorem eqp_c {r g g' : Nat → Int32} (h : EQP r g) (rn : RNQ g) (e : ∀ j : Nat, j < 26 ∨ 281 ≤ j → g' j = g j) : EQP r g' := by
  obtain ⟨h0, h1, h2, h3, h4⟩ := h
  have L : ∀ l : Nat, l ≤ 1 → 0 ≤ (g (4 + l)).toInt → EQL r g l → EQL r g' l := fun l hl p w => by
    unfold EQL at *
    rw [e (2 + l) (by omega), e (4 + l) (by omega), e (6 + l) (by omega)]
    exact ⟨w.1, fun z => ⟨(w.2 z).1, (w.2 z).2.1, fun i hi => by rw [e _ (by omega)]; exact (w.2 z).2.2 i hi⟩⟩
  have b6 := rn.2.1
  refine ⟨h0.trans (e 0 (by decide)).symm, h1.trans (e 1 (by decide)).symm, fun b b0 b1 => ?_, L 0 (by decide) rn.2.2.1 h3, L 1 (by decide) rn.2.2.2 h4⟩
  rw [e 1 (by decide)] at b1
  obtain ⟨q1, q2, q3⟩ := h2 b b0 b1
  exact ⟨q1.trans (e _ (by omega)).symm, q2.trans (e _ (by omega)).symm, q3.trans (e _ (by omega)).symm⟩
theorem rnq_c {g g' : Nat → Int32} (rn : RNQ g) (e : ∀ j : Nat, j < 26 → g' j = g j) (h : 0 ≤ (g' 26).toInt ∧ (g' 26).toInt ≤ 8) : RNQ g' := by
  unfold RNQ
  rw [e 1 (by decide), e 4 (by decide), e 5 (by decide)]
  exact ⟨h, rn.2⟩
/-- an undo, of rows alike -/
theorem eqr_un {M N : mm_M} {f : Nat → Int32} {n : Int} {p v : Nat} (h : EQR (rwX M p v) f) (hp : PLE M N p) (hg : RGT M f) (hr : RGU M N n v) (hn : 1 ≤ n ∧ n ≤ (f 49).toInt) : EQR (rwX N p v) (unS f n) ∧ RGT N (unS f n) := by
  obtain ⟨a, b, c⟩ := rgt_u p hg hr hn
  obtain ⟨u1, u2, u3⟩ := uns_v f (n := n) (by omega) hg.1.2.1.2
  have rn := rnq_c h.2 (fun j hj => u3 j (Or.inl hj)) c
  have eP : EQP (rwX N p v) f := by
    have o : ∀ j : Nat, j < 26 ∨ 49 ≤ j → rwX N p v j = rwX M p v j := fun j hj => (cl_w N p v v _ (M.1 v 4) hj).trans (cl_p hp hj)
    obtain ⟨h0, h1, h2, h3, h4⟩ := h.1.1
    have b6 := h.2.2.1
    have L : ∀ l : Nat, l ≤ 1 → 0 ≤ (f (4 + l)).toInt → EQL (rwX M p v) f l → EQL (rwX N p v) f l := fun l hl p w => by
      unfold EQL at *
      rw [o (2 + l) (by omega), o (4 + l) (by omega), o (6 + l) (by omega)]
      exact ⟨w.1, fun z => ⟨(w.2 z).1, (w.2 z).2.1, fun i hi => by rw [o _ (by omega)]; exact (w.2 z).2.2 i hi⟩⟩
    refine ⟨(o 0 (by decide)).trans h0, (o 1 (by decide)).trans h1, fun b b0 b1 => ?_, L 0 (by decide) h.2.2.2.1 h3, L 1 (by decide) h.2.2.2.2 h4⟩
    obtain ⟨q1, q2, q3⟩ := h2 b b0 b1
    exact ⟨(o _ (by omega)).trans q1, (o _ (by omega)).trans q2, (o _ (by omega)).trans q3⟩
  exact ⟨⟨⟨eqp_c eP h.2 (fun j hj => u3 j (by omega)), b⟩, rn⟩, a⟩
