/-! THE FRESH MEMORY keeps what holds between the calls -/
theorem bk_0 (j : Nat) : (bk j).1 ≤ 0 ∧ 0 ≤ (bk j).2 := by unfold bk; (repeat' split) <;> decide
theorem bz_0 (j : Nat) : (bz j).1 ≤ 0 ∧ 0 ≤ (bz j).2 := by unfold bz; (repeat' split) <;> first | decide | exact bk_0 _
theorem bf_0 (j : Nat) : (bf j).1 ≤ 0 ∧ 0 ≤ (bf j).2 := by unfold bf; split <;> first | decide | exact bz_0 _
def zP (p : Int × Int) : Prop := p.1 ≤ 0 ∧ 0 ≤ p.2
theorem zP_i {c : Prop} {d : Decidable c} {a b : Int × Int} (ha : zP a) (hb : zP b) : zP (@ite _ c d a b) := by
  by_cases h : c
  · rw [if_pos h]; exact ha
  · rw [if_neg h]; exact hb
set_option maxRecDepth 20000 in
theorem s_b_0 (c k : Nat) : (s_b c k).1 ≤ 0 ∧ 0 ≤ (s_b c k).2 := by
  show zP (s_b c k)
  unfold s_b
  repeat' (first | exact bz_0 _ | exact bf_0 _ | exact bk_0 _ | refine zP_i ?_ ?_ | exact ⟨by decide, by decide⟩)
theorem m0_v (i k : Nat) : M0.1 i k = 0 ∨ (M0.1 i k = -1 ∧ (s_b (s_c i) k).1 ≤ -1 ∧ -1 ≤ (s_b (s_c i) k).2) := by
  by_cases h0 : i = 0
  · subst h0
    by_cases hk : k = 3
    · subst hk; right; exact ⟨rfl, by decide, by decide⟩
    · left; show (if k = 3 then (-1 : Int32) else 0) = 0; rw [if_neg hk]
  by_cases h1 : i = 51
  · subst h1
    by_cases hk : k = 2
    · subst hk; right; exact ⟨rfl, by decide, by decide⟩
    · left; show (if k = 2 then (-1 : Int32) else 0) = 0; rw [if_neg hk]
  by_cases h2 : i = 53
  · subst h2
    by_cases hk : k = 2
    · subst hk; right; exact ⟨rfl, by decide, by decide⟩
    · left; show (if k = 2 then (-1 : Int32) else 0) = 0; rw [if_neg hk]
  by_cases h3 : i = 55
  · subst h3
    by_cases hk : k = 2
    · subst hk; right; exact ⟨rfl, by decide, by decide⟩
    · left; show (if k = 2 then (-1 : Int32) else 0) = 0; rw [if_neg hk]
  by_cases h4 : i = 57
  · subst h4
    by_cases hk : k = 2
    · subst hk; right; exact ⟨rfl, by decide, by decide⟩
    · left; show (if k = 2 then (-1 : Int32) else 0) = 0; rw [if_neg hk]
  by_cases h5 : i = 78
  · subst h5
    by_cases hk : k = 6
    · subst hk; right; exact ⟨rfl, by decide, by decide⟩
    · left; show (if k = 6 then (-1 : Int32) else 0) = 0; rw [if_neg hk]
  by_cases h6 : i = 98
  · subst h6
    by_cases hk : k = 14
    · subst hk; right; exact ⟨rfl, by decide, by decide⟩
    · left; show (if k = 14 then (-1 : Int32) else 0) = 0; rw [if_neg hk]
  by_cases h7 : i = 115
  · subst h7
    have hb : ∀ k, s_b (s_c 115) k = (-1, 3) := fun k => rfl
    rw [hb]
    by_cases hk0 : k = 0
    · subst hk0; right; exact ⟨rfl, by decide, by decide⟩
    by_cases hk1 : k = 1
    · subst hk1; right; exact ⟨rfl, by decide, by decide⟩
    by_cases hk2 : k = 2
    · subst hk2; right; exact ⟨rfl, by decide, by decide⟩
    by_cases hk3 : k = 3
    · subst hk3; right; exact ⟨rfl, by decide, by decide⟩
    left; show (if k = 0 then (-1 : Int32) else (if k = 1 then (-1) else (if k = 2 then (-1) else (if k = 3 then (-1) else 0)))) = 0
    rw [if_neg hk0, if_neg hk1, if_neg hk2, if_neg hk3]
  left
  unfold M0
  simp only [if_neg h0, if_neg h1, if_neg h2, if_neg h3, if_neg h4, if_neg h5, if_neg h6, if_neg h7]
theorem m0_m : ∀ i, i < 118 → ∀ k, k < 16 → s_m (s_c i) k ≠ 0 → s_c (s_p0 i k) = s_m (s_c i) k := by decide +kernel
theorem m0_mk (c k : Nat) (h : 16 ≤ k) : s_m c k = 0 := by
  unfold s_m
  (repeat' split) <;> first | rfl | omega
theorem m0_mc (k : Nat) : s_m 999 k = 0 := by
  unfold s_m
  (repeat' split) <;> first | rfl | omega
theorem li0_M0 : LI0 M0 := by
  refine ⟨⟨fun i k => ?_, fun i k h => rfl, fun i k h => ?_⟩, b01_i (fun c o hc => ?_), b01_i (fun j hj => ?_)⟩
  · have hb := s_b_0 (s_c i) k
    rcases m0_v i k with h | ⟨h, h1, h2⟩
    · rw [h]; exact hb
    · rw [h]; exact ⟨h1, h2⟩
  · have e : M0.2.2 i k = s_p0 i k := rfl
    rw [e]
    by_cases hi : i < mm_N
    · by_cases hk : k < 16
      · exact m0_m i hi k hk h
      · exact absurd (m0_mk _ k (by omega)) h
    · rw [s_c_out hi] at h; exact absurd (m0_mc k) h
  · rcases ppQ_c hc with rfl | rfl
    · show (0 : Int32).toInt < pw2 (0 : Int32).toInt; decide
    · show (0 : Int32).toInt < pw2 (0 : Int32).toInt; decide
  · show zwB (fun _ => (0 : Int32))
    have z : ∀ l, zwL (fun _ => (0 : Int32)) l := fun l => ⟨by show (0 : Int32).toInt + (0 : Int32).toInt ≤ 900; decide, fun i hi => absurd hi (by show ¬ (i : Int) < (0 : Int32).toInt; have : (0 : Int32).toInt = 0 := rfl; omega), Or.inl rfl⟩
    exact ⟨z 0, z 1⟩
theorem li_M0 : LI M0 := by
  refine ⟨li0_M0, ?_, ?_, fun q hq => ?_, fun k hk => ?_, ?_⟩
  · unfold T1; decide
  · unfold T2; decide
  · unfold TR
    left
    rcases (show q = 0 ∨ q = 1 ∨ q = 2 ∨ q = 3 by omega) with rfl | rfl | rfl | rfl <;> decide
  · exact absurd hk (by show ¬ (k : Int) < (M0.1 0 1).toInt; have : (M0.1 0 1).toInt = 0 := by decide
                        omega)
  · unfold T5; decide
/-! the fresh memory, M1 -/
theorem m0_99 (k : Nat) : M0.1 99 k = 0 := by
  rcases m0_v 99 k with h | ⟨h, h1, _⟩
  · exact h
  · exfalso
    have e : M0.1 99 k = 0 := rfl
    rw [e] at h; exact absurd h (by decide)
theorem cts_M0 : CTS M0 2 (M0.1 99) (17 * 0) := by
  have z : ∀ k, (M0.1 99 k).toInt = 0 := fun k => by rw [m0_99]; rfl
  have k0 : ∀ k, M0.1 99 k = 0 := m0_99
  refine ⟨⟨⟨⟨⟨⟨rfl, rfl, fun b b0 b1 => absurd b1 (by rw [z]; omega), ⟨by rw [z]; exact ⟨fun _ => rfl, fun _ => by decide⟩, fun q => absurd (z _) q⟩, ⟨by rw [z]; exact ⟨fun _ => rfl, fun _ => by decide⟩, fun q => absurd (z _) q⟩⟩, ⟨⟨rfl, rfl, rfl, rfl, rfl, rfl⟩, fun k a b => absurd b (by rw [z]; omega)⟩⟩, ⟨by rw [z]; decide, by rw [z]; decide, by rw [z]; decide, by rw [z]; decide⟩⟩, ⟨⟨Or.inl rfl, Or.inl rfl, Or.inl rfl, fun b b0 b1 => absurd b1 (by show ¬ b < (M0.1 2 0).toInt; rw [show (M0.1 2 0).toInt = 0 from rfl]; omega)⟩, ⟨Or.inl rfl, Or.inl rfl⟩⟩, ⟨fun b b0 b1 => absurd b1 (by rw [z]; omega), ⟨fun k a b => absurd b (by show ¬ k < (M0.1 99 (26 + 0)).toInt; rw [z]; omega), by show 0 ≤ (M0.1 99 (26 + 4)).toInt; rw [z]; decide, by show (M0.1 99 (26 + 4)).toInt ≤ 17 * 0; rw [z]; decide⟩⟩⟩, fun k b o w _ _ _ _ => Or.inl rfl⟩, ⟨⟨⟨by rw [z]; rfl, by rw [z]; decide, by decide, by decide⟩, fun i hi => absurd hi (by rw [z]; omega), fun i hi => absurd hi (by rw [z]; omega)⟩, fun i hi => absurd hi (by rw [z]; omega)⟩, Or.inl rfl, Or.inl rfl⟩
theorem lj_M0 : LJ 0 M0 := by
  refine ⟨li_M0, Or.inl ⟨rfl, rfl⟩, cts_M0, fun q hq j hj => ?_⟩
  exfalso
  rcases (show q = 0 ∨ q = 1 ∨ q = 2 ∨ q = 3 by omega) with rfl | rfl | rfl | rfl
  · rw [show (M0.1 (s_p0 50 0) 2).toInt = -1 by decide] at hj; omega
  · rw [show (M0.1 (s_p0 50 1) 2).toInt = -1 by decide] at hj; omega
  · rw [show (M0.1 (s_p0 50 2) 2).toInt = -1 by decide] at hj; omega
  · rw [show (M0.1 (s_p0 50 3) 2).toInt = -1 by decide] at hj; omega
