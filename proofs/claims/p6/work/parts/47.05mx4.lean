/-! laws, over any memory in which the plan is the same -/
theorem zwS_cc {f g : Nat → Int32} {o n : Int} (h0 : 281 ≤ o) (h : ∀ j, 281 ≤ j → g j = f j) : (∀ i : Nat, dqF g o i = dqF f o i) ∧ (zwS f o n → zwS g o n) := by
  have e : ∀ i : Nat, g (o + (i : Int)).toNat = f (o + (i : Int)).toNat := fun i => h _ (by omega)
  have d : ∀ i : Nat, dqF g o i = dqF f o i := by
    intro i
    induction i with
    | zero => rfl
    | succ i ih => rw [dqF, dqF, e i, ih]
  exact ⟨d, fun z i hi => by rw [e i, d i]; exact z i hi⟩
theorem cwx_c {f g : Nat → Int32} {o n : Int} (h0 : 281 ≤ o) (h : ∀ j, 281 ≤ j → g j = f j) (hc : CWX f o n) : CWX g o n := by
  obtain ⟨d, z⟩ := zwS_cc (n := n) h0 h
  exact ⟨z hc.1, fun i hi => by rw [d i]; exact hc.2.1 i hi, by rw [d]; exact hc.2.2⟩
theorem md_281 {M N : mm_M} {p : Nat} (hp : PLE M N p) (h g : Int32) : ∀ j, 281 ≤ j → mdX N p g j = mdX M p h j := fun j hj => by
  unfold mdX clX
  rw [hp.2.2.2.2]
  (repeat rw [if_neg (by omega)])
  (repeat rw [if_neg (by omega)])
theorem lwx_p {M N : mm_M} {p i j : Nat} (hp : PLE M N p) (h0 : 0 ≤ (M.1 p i).toInt) (h : b01 (LWX M p i j) = 1) : b01 (LWX N p i j) = 1 := b01_i (by
  unfold LWX
  rw [hp.1]
  rcases b01_e h with q | q
  · exact Or.inl q
  · exact Or.inr ⟨q.1, cwx_c (by omega) (md_281 hp 0 0) q.2⟩)
/-- whatever the words are, a truth's value is 0 or 1 -/
def BTW (M : mm_M) (p : Nat) : Prop := (M.1 p 9).toInt = (M.1 p 10).toInt ∨ ∀ W : Nat → Int, bitQ ((rkS (mdX M p 0) W (281 + (M.1 p 9).toInt) ((M.1 p 10).toInt - (M.1 p 9).toInt).toNat).2 0)
theorem btw_p {M N : mm_M} {p : Nat} (hp : PLE M N p) (h0 : 0 ≤ (M.1 p 9).toInt) (h : b01 (BTW M p) = 1) : b01 (BTW N p) = 1 := b01_i (by
  unfold BTW
  rw [hp.1]
  rcases b01_e h with q | q
  · exact Or.inl q
  · refine Or.inr (fun W => ?_)
    rw [rkS_c (f := mdX M p 0) (fun i hi => md_281 hp 0 0 _ (by omega))]
    exact q W)
theorem btx_w {M : mm_M} {p : Nat} (h0 : 0 ≤ (M.1 p 9).toInt) (hl : b01 (LWX M p 9 10) = 1) (h : b01 (BTW M p) = 1) : b01 (BTX M p) = 1 := b01_i (by
  intro b k o w hb hk
  by_cases z : (M.1 p 9).toInt = (M.1 p 10).toInt
  · exact Or.inl z
  · right
    rcases b01_e h with q | q
    · exact absurd q z
    · have l := (lw_ne hl z).1
      have r := q (wdO (mdX M p 0) b k o w)
      unfold rkO
      rw [show mdX M p 0 (4 + 1) = M.1 p 9 from rfl, show mdX M p 0 (6 + 1) = M.1 p 10 - M.1 p 9 from rfl, i32_sub ⟨h0, l⟩]
      exact r)
/-- no price is 0 -/
def PRS (M : mm_M) (c : Nat) (n : Int) : Prop := ∀ k : Int, 0 ≤ k → k < n → ¬ (M.1 c k.toNat).toInt = 0
theorem prx_t {M N : mm_M} {v c : Nat} {n : Int} (hc : s_p0 v 1 = c) (hn : (N.1 81 6).toInt = n) (ht : b01 (TUP N M v n) = 1) (h : b01 (PRS M c n) = 1) : b01 (PRX N) = 1 := b01_i (fun k h0 h1 => by
  rw [hn] at h1
  rw [(b01_e ht k h0 h1).1, hc]
  exact b01_e h k h0 h1)
theorem ple_f {S : List Nat} {M N : mm_M} {p : Nat} (hf : FX S M N) (cp : s_c p = 6) (hS : ∀ x ∈ S, s_c x ≠ 6 ∧ s_c x ≠ 21 ∧ s_c x ≠ 22 ∧ s_c x ≠ 23 ∧ s_c x ≠ 24) : PLE M N p := by
  have lt := s_lt (c := 6) cp rfl
  have t := s_plan p lt cp
  exact ⟨hf.cell (fun z => (hS _ z).1 cp), hf.cell (fun z => (hS _ z).2.1 t.1), hf.cell (fun z => (hS _ z).2.2.1 t.2.1), hf.cell (fun z => (hS _ z).2.2.2.1 t.2.2.1), hf.cell (fun z => (hS _ z).2.2.2.2 t.2.2.2)⟩
theorem md_cl {M N : mm_M} {p v : Nat} (hp : PLE M N p) (h : Int32) {j : Nat} (hj : j < 26 ∨ j = 28 ∨ 281 ≤ j) : mdX N p h j = clX M p v h j := by
  obtain ⟨p1, p2, p3, p4, p5⟩ := hp
  unfold mdX
  rw [if_neg (by omega), if_neg (by omega), if_neg (by omega)]
  unfold clX
  rw [p1, p2, p3, p4, p5]
  rcases hj with q | q | q
  · by_cases c0 : j = 0
    · rw [if_pos c0, if_pos c0]
    · rw [if_neg c0, if_neg c0]
      by_cases c1 : j = 1
      · rw [if_pos c1, if_pos c1]
      · rw [if_neg c1, if_neg c1]
        by_cases c2 : j = 2
        · rw [if_pos c2, if_pos c2]
        · rw [if_neg c2, if_neg c2]
          by_cases c3 : j = 3
          · rw [if_pos c3, if_pos c3]
          · rw [if_neg c3, if_neg c3]
            by_cases c4 : j = 4
            · rw [if_pos c4, if_pos c4]
            · rw [if_neg c4, if_neg c4]
              by_cases c5 : j = 5
              · rw [if_pos c5, if_pos c5]
              · rw [if_neg c5, if_neg c5]
                by_cases c6 : j = 6
                · rw [if_pos c6, if_pos c6]
                · rw [if_neg c6, if_neg c6]
                  by_cases c7 : j = 7
                  · rw [if_pos c7, if_pos c7]
                  · rw [if_neg c7, if_neg c7]
                    by_cases c8 : j < 14
                    · rw [if_pos c8, if_pos c8]
                    · rw [if_neg c8, if_neg c8]
                      by_cases c9 : j < 20
                      · rw [if_pos c9, if_pos c9]
                      · rw [if_neg c9, if_neg c9, if_pos q, if_pos q]
  · subst q; rfl
  · (repeat rw [if_neg (by omega)])
    (repeat rw [if_neg (by omega)])
theorem cl_k (M : mm_M) (p v : Nat) (h : Int32) {k : Int} (hk : 0 ≤ k ∧ k < 8) : clX M p v h (33 + k).toNat = M.1 (s_p0 v 1) k.toNat ∧ clX M p v h (41 + k).toNat = M.1 (s_p0 v 2) k.toNat ∧ clX M p v h 26 = M.1 v 0 := by
  refine ⟨?_, ?_, rfl⟩
  · unfold clX
    (repeat rw [if_neg (by omega)])
    rw [if_pos (by omega), show (33 + k).toNat - 33 = k.toNat by omega]
  · unfold clX
    (repeat rw [if_neg (by omega)])
    rw [if_pos (by omega), show (41 + k).toNat - 41 = k.toNat by omega]
/-- what a buyer would buy, behind tune: as plan and stock tell it -/
theorem bo_tu {M N : mm_M} {p v : Nat} {b s : Int} {h : Int32} (hp : PLE M N p) (hk : (N.1 81 6).toInt = (M.1 v 0).toInt ∧ 0 ≤ (M.1 v 0).toInt ∧ (M.1 v 0).toInt ≤ 8) (ht : b01 (TUP N M v (M.1 v 0).toInt) = 1) (hb : 0 ≤ b ∧ b < 6) (h4 : 0 ≤ (M.1 p 7).toInt) (h5 : 0 ≤ (M.1 p 9).toInt) : boF (mdX N p h) b s = boF (clX M p v h) b s := by
  have lo : ∀ j, j < 26 → mdX N p h j = clX M p v h j := fun j hj => md_cl hp h (Or.inl hj)
  have hi : ∀ j, 281 ≤ j → mdX N p h j = clX M p v h j := fun j hj => md_cl hp h (Or.inr (Or.inr hj))
  have el : ∀ l, l < 2 → EQL (mdX N p h) (clX M p v h) l := fun l hl => by
    refine ⟨by rw [lo (2 + l) (by omega)], fun _ => ⟨lo _ (by omega), lo _ (by omega), fun i _ => hi _ ?_⟩⟩
    rcases (show l = 0 ∨ l = 1 by omega) with rfl | rfl
    · have : (clX M p v h (4 + 0)).toInt = (M.1 p 7).toInt := rfl
      omega
    · have : (clX M p v h (4 + 1)).toInt = (M.1 p 9).toInt := rfl
      omega
  refine bo_c s ?_ (md_cl hp h (Or.inr (Or.inl rfl))) (el 0 (by decide)) (el 1 (by decide)) ⟨lo _ (by omega), lo _ (by omega), lo _ (by omega)⟩ (fun k h0 h1 => ?_)
  · rw [(md_lo N p h).2.2.2.2.2.2.1]
    show N.1 81 6 = M.1 v 0
    exact Int32.toInt_inj.mp hk.1
  · have k26 : (clX M p v h 26).toInt = (M.1 v 0).toInt := rfl
    have q := b01_e ht k h0 (by omega)
    have c := cl_k M p v h (k := k) (by omega)
    exact ⟨by rw [md_33 N p h (by omega), c.1, q.1], by rw [md_41 N p h (by omega), c.2.1, q.2]⟩
theorem apx_o {M N : mm_M} {p : Nat} (hp : PLE M N p) (h2 : N.1 82 = M.1 82) (h3 : N.1 83 = M.1 83) (h8 : N.1 84 = M.1 84) (h4 : 0 ≤ (M.1 p 7).toInt) (h5 : 0 ≤ (M.1 p 9).toInt) (h : b01 (APX M p) = 1) : b01 (APX N p) = 1 := b01_i (fun k b o w hk hb ho hw => by
  rw [h3, h2, apX_c hp hb hk ⟨by rw [h3], by rw [h8]⟩ h4 h5]
  exact b01_e h k b o w hk hb ho hw)
