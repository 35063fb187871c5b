/-! IMAGES: a plan copied, a stock copied: the row is alike, the laws stand -/
theorem cwx_b {f g : Nat → Int32} {o n : Int} (h : ∀ i : Nat, (i : Int) < n → g (o + (i : Int)).toNat = f (o + (i : Int)).toNat) (hn : 0 ≤ n) (hc : CWX f o n) : CWX g o n := by
  obtain ⟨a, b, c⟩ := hc
  have dq : ∀ i : Nat, (i : Int) ≤ n → dqF g o i = dqF f o i := fun i hi => by
    rw [← rkS_1 g (fun _ => 0) o i, ← rkS_1 f (fun _ => 0) o i, rkS_c (f := f) (g := g) (fun k hk => h k (by omega))]
  exact ⟨fun i hi => by rw [dq i (by omega), h i hi]; exact a i hi, fun i hi => by rw [dq i hi]; exact b i hi, by rw [dq n.toNat (by omega)]; exact c⟩
theorem code_pc {N M : mm_M} {d s : Nat} (h : PCP N M d s) {x : Int} (h0 : 0 ≤ x) (h1 : x < (M.1 s 6).toInt) : mdX N d 0 (281 + x).toNat = mdX M s 0 (281 + x).toNat := i32_e (by rw [md_c N d 0 h0, md_c M s 0 h0, h.2.2 x.toNat (by omega)])
theorem lw_pc {N M : mm_M} {d s i j : Nat} (h : PCP N M d s) (hi : N.1 d i = M.1 s i) (hj : N.1 d j = M.1 s j) (h0 : 0 ≤ (M.1 s i).toInt) (mk : (M.1 s i).toInt = (M.1 s j).toInt ∨ (M.1 s j).toInt ≤ (M.1 s 6).toInt) (hl : LWX M s i j) : LWX N d i j := by
  unfold LWX at *
  rw [hi, hj]
  rcases hl with q | ⟨q1, q2⟩
  · exact Or.inl q
  · rcases mk with m | m
    · exact Or.inl m
    · refine Or.inr ⟨q1, cwx_b (fun k hk => ?_) (by omega) q2⟩
      rw [show 281 + (M.1 s i).toInt + (k : Int) = 281 + ((M.1 s i).toInt + (k : Int)) by omega]
      exact code_pc h (by omega) (by omega)
theorem law_pc {N M : mm_M} {d s : Nat} (h : PCP N M d s) (h7 : 0 ≤ (M.1 s 7).toInt) (h9 : 0 ≤ (M.1 s 9).toInt) (h6 : (M.1 s 0).toInt ≤ 6) (mk : MKX M s) (hl : LAW M s) : LAW N d ∧ MKX N d := by
  obtain ⟨f0, f1, f6, f7, f8, f9, f10⟩ := h.1
  obtain ⟨l1, l2, l3, l4⟩ := hl
  refine ⟨⟨lw_pc h f7 f8 h7 mk.1 l1, lw_pc h f9 f10 h9 mk.2 l2, ?_, fun b b0 b1 => ?_⟩, by unfold MKX; rw [f7, f8, f9, f10, f6]; exact mk⟩
  · unfold BTW at *
    rw [f9, f10]
    rcases l3 with q | q
    · exact Or.inl q
    · rcases mk.2 with m | m
      · exact Or.inl m
      · refine Or.inr (fun W => ?_)
        rw [rkS_c (f := mdX M s 0) (g := mdX N d 0) (fun k hk => by
          rw [show 281 + (M.1 s 9).toInt + (k : Int) = 281 + ((M.1 s 9).toInt + (k : Int)) by omega]
          exact code_pc h (by omega) (by omega))]
        exact q W
  · rw [f0] at b1
    rw [(h.2.1 b.toNat (by omega)).2.2]
    exact l4 b b0 b1
/-- the image's row is alike to the row that the class's is alike to -/
theorem eqr_pc {N M : mm_M} {d s v w : Nat} {f : Nat → Int32} (h : PCP N M d s) (hk : skX N v = skX M w) (h7 : 0 ≤ (M.1 s 7).toInt) (h9 : 0 ≤ (M.1 s 9).toInt) (mk : MKX M s) (hl : LAW M s) (hE : EQR (rwX M s w) f) : EQR (rwX N d v) f := by
  obtain ⟨f0, f1, f6, f7, f8, f9, f10⟩ := h.1
  have G := cl_g N d v (N.1 v 4)
  have G' := cl_g M s w (M.1 w 4)
  obtain ⟨⟨⟨e0, e1, e2, e3, e4⟩, eS⟩, rn⟩ := hE
  have b6 := rn.2.1
  have sk : ∀ j : Nat, 26 ≤ j → j < 49 → rwX N d v j = rwX M s w j := fun j a b => by rw [sk_r N d v ⟨a, b⟩, sk_r M s w ⟨a, b⟩, hk]
  have L : ∀ l i j : Nat, l ≤ 1 → rwX N d v (2 + l) = rwX M s w (2 + l) → rwX N d v (4 + l) = rwX M s w (4 + l) → rwX N d v (6 + l) = rwX M s w (6 + l) → rwX M s w (2 + l) = (if M.1 s i = M.1 s j then 0 else 1) → rwX M s w (4 + l) = M.1 s i → rwX M s w (6 + l) = M.1 s j - M.1 s i → 0 ≤ (M.1 s i).toInt → ((M.1 s i).toInt = (M.1 s j).toInt ∨ (M.1 s j).toInt ≤ (M.1 s 6).toInt) → LWX M s i j → EQL (rwX M s w) f l → EQL (rwX N d v) f l := fun l i j hl a2 a4 a6 c2 c4 c6 hi mk lw e => by
    unfold EQL at *
    rw [a2, a4, a6]
    refine ⟨e.1, fun z => ⟨(e.2 z).1, (e.2 z).2.1, fun k hk => ?_⟩⟩
    have x4 := (e.2 z).1
    have x6 := (e.2 z).2.1
    have ne : ¬ (M.1 s i).toInt = (M.1 s j).toInt := fun y => z (e.1.mp (by rw [c2]; exact i32_ite.mpr y))
    have m : (M.1 s j).toInt ≤ (M.1 s 6).toInt := mk.resolve_left ne
    rw [c4] at x4
    rw [c6] at x6
    have v4 : (f (4 + l)).toInt = (M.1 s i).toInt := by rw [← x4]
    have lt : (M.1 s i).toInt + (k : Int) < (M.1 s 6).toInt := by
      have le : (M.1 s i).toInt ≤ (M.1 s j).toInt := lw.elim (fun y => absurd y ne) (fun y => y.1)
      have := i32_sub (a := M.1 s i) (b := M.1 s j) ⟨hi, le⟩
      rw [← x6, this] at hk; omega
    rw [v4, show 281 + (M.1 s i).toInt + (k : Int) = 281 + ((M.1 s i).toInt + (k : Int)) by omega]
    have t := (e.2 z).2.2 k hk
    rw [v4, show 281 + (M.1 s i).toInt + (k : Int) = 281 + ((M.1 s i).toInt + (k : Int)) by omega] at t
    rw [← t]
    unfold rwX
    rw [cl_281 N d v _ (by omega), cl_281 M s w _ (by omega), show (281 + ((M.1 s i).toInt + (k : Int))).toNat - 281 = ((M.1 s i).toInt + (k : Int)).toNat by omega, h.2.2 _ (by omega)]
  refine ⟨⟨⟨?_, ?_, fun b b0 b1 => ?_, ?_, ?_⟩, ⟨?_, ?_, ?_, ?_, ?_, ?_⟩, fun k k0 k1 => ?_⟩, rn⟩
  · exact (show rwX N d v 0 = rwX M s w 0 from f1).trans e0
  · exact (show rwX N d v 1 = rwX M s w 1 from f0).trans e1
  · have B := rx_b N d v (b := b) (by omega)
    have B' := rx_b M s w (b := b) (by omega)
    have a := h.2.1 b.toNat (by omega)
    obtain ⟨q1, q2, q3⟩ := e2 b b0 b1
    exact ⟨by rw [B.1, a.1, ← B'.1]; exact q1, by rw [B.2.1, a.2.1, ← B'.2.1]; exact q2, by rw [B.2.2, a.2.2, ← B'.2.2]; exact q3⟩
  · exact L 0 7 8 (by decide) (show (if N.1 d 7 = N.1 d 8 then (0 : Int32) else 1) = (if M.1 s 7 = M.1 s 8 then 0 else 1) by rw [f7, f8]) f7 (show N.1 d 8 - N.1 d 7 = M.1 s 8 - M.1 s 7 by rw [f7, f8]) G'.2.2.1 G'.2.2.2.2.1 G'.2.2.2.2.2.2.1 h7 mk.1 hl.1 e3
  · exact L 1 9 10 (by decide) (show (if N.1 d 9 = N.1 d 10 then (0 : Int32) else 1) = (if M.1 s 9 = M.1 s 10 then 0 else 1) by rw [f9, f10]) f9 (show N.1 d 10 - N.1 d 9 = M.1 s 10 - M.1 s 9 by rw [f9, f10]) G'.2.2.2.1 G'.2.2.2.2.2.1 G'.2.2.2.2.2.2.2 h9 mk.2 hl.2.1 e4
  · exact (sk 26 (by decide) (by decide)).trans eS.1.1
  · exact (sk 27 (by decide) (by decide)).trans eS.1.2.1
  · exact (sk 28 (by decide) (by decide)).trans eS.1.2.2.1
  · exact (sk 29 (by decide) (by decide)).trans eS.1.2.2.2.1
  · exact (sk 30 (by decide) (by decide)).trans eS.1.2.2.2.2.1
  · exact (sk 32 (by decide) (by decide)).trans eS.1.2.2.2.2.2
  · have q := eS.2 k k0 k1
    have k8 := rn.1
    exact ⟨(sk _ (by omega) (by omega)).trans q.1, (sk _ (by omega) (by omega)).trans q.2⟩
