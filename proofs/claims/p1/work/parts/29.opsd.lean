theorem u2_w {α : Type} (f : Nat → Nat → α) (i k : Nat) (v w : α) : u2 (u2 f i k v) i k w = u2 f i k w := by
  funext a b; unfold u2; by_cases ha : a = i <;> by_cases hb : b = k <;> simp [ha, hb]
theorem u2_c {α : Type} (f : Nat → Nat → α) {i k i' k' : Nat} (v v' : α) (h : i ≠ i' ∨ k ≠ k') : u2 (u2 f i' k' v') i k v = u2 (u2 f i k v) i' k' v' := by
  funext a b
  simp only [u2]
  by_cases ha : a = i
  · by_cases hb : b = k
    · subst ha; subst hb
      by_cases ha' : a = i'
      · by_cases hb' : b = k'
        · omega
        · simp [ha', hb']
      · simp [ha']
    · simp [hb]
  · simp [ha]
theorem wI_w (M : mm_M) (i k : Nat) (v w : Int32) : wI (wI M i k v) i k w = wI M i k w := by unfold wI; rw [u2_w]
theorem wJ_w (M : mm_M) (i k : Nat) (v w : Int64) : wJ (wJ M i k v) i k w = wJ M i k w := by unfold wJ; rw [u2_w]
theorem wP_w (M : mm_M) (i k : Nat) (v w : Nat) : wP (wP M i k v) i k w = wP M i k w := by unfold wP; rw [u2_w]
theorem wI_c {M : mm_M} {i k i' k' : Nat} {v v' : Int32} (h : i ≠ i' ∨ k ≠ k') : wI (wI M i' k' v') i k v = wI (wI M i k v) i' k' v' := by unfold wI; rw [u2_c _ _ _ h]
theorem wJ_c {M : mm_M} {i k i' k' : Nat} {v v' : Int64} (h : i ≠ i' ∨ k ≠ k') : wJ (wJ M i' k' v') i k v = wJ (wJ M i k v) i' k' v' := by unfold wJ; rw [u2_c _ _ _ h]
theorem wP_c {M : mm_M} {i k i' k' : Nat} {v v' : Nat} (h : i ≠ i' ∨ k ≠ k') : wP (wP M i' k' v') i k v = wP (wP M i k v) i' k' v' := by unfold wP; rw [u2_c _ _ _ h]
/-- the reference's part of the memory is the fresh one -/
def MB (M : mm_M) : Prop := (∀ i k, 98 ≤ i → M.1 i k = M0.1 i k) ∧ (∀ i k, 98 ≤ i → M.2.1 i k = M0.2.1 i k) ∧ (∀ i k, 98 ≤ i → M.2.2 i k = M0.2.2 i k)
theorem MB_0 : MB M0 := ⟨fun _ _ _ => rfl, fun _ _ _ => rfl, fun _ _ _ => rfl⟩
theorem MB_I {M : mm_M} {i k : Nat} {v : Int32} (h : MB M) (hi : i < 98) : MB (wI M i k v) := ⟨fun a b ha => (u2_a _ _ (by omega)).trans (h.1 a b ha), h.2.1, h.2.2⟩
theorem MB_J {M : mm_M} {i k : Nat} {v : Int64} (h : MB M) (hi : i < 98) : MB (wJ M i k v) := ⟨h.1, fun a b ha => (u2_a _ _ (by omega)).trans (h.2.1 a b ha), h.2.2⟩
theorem MB_P {M : mm_M} {i k : Nat} {v : Nat} (h : MB M) (hi : i < 98) : MB (wP M i k v) := ⟨h.1, h.2.1, fun a b ha => (u2_a _ _ (by omega)).trans (h.2.2 a b ha)⟩
def sx (x : Int32) : Int32 := 1103515245 * x + 12345
def su (x : Int32) : Int32 := (x.toUInt32 >>> ((16 : Int32).toUInt32 &&& Int32.toUInt32 31)).toInt32
def sr (x m : Int32) : Int32 := su x - su x / m * m
theorem su_nat (x : Int32) : ∃ n, n < 65536 ∧ su x = nI n := by
  have hl := x.toBitVec.isLt
  refine ⟨x.toBitVec.toNat / 2 ^ 16, by omega, ?_⟩
  apply Int32.toBitVec_inj.mp
  apply BitVec.eq_of_toNat_eq
  rw [pk_tn (by omega)]
  exact pk_ushr x 16 16 (by decide)
theorem sr_nat (x : Int32) {m : Nat} (h0 : 0 < m) (hm : m < 2 ^ 31) : ∃ n, n < m ∧ sr x (nI m) = nI n := by
  obtain ⟨n, hn, e⟩ := su_nat x
  refine ⟨n % m, Nat.mod_lt n h0, ?_⟩
  unfold sr
  rw [e, pk_rem (by omega) h0 hm]
theorem sr_5 (x : Int32) : 0 ≤ (sr x 5).toInt ∧ (sr x 5).toInt ≤ 4 := by
  obtain ⟨n, hn, e⟩ := sr_nat x (m := 5) (by decide) (by decide)
  rw [show sr x 5 = nI n from e, nI_toInt (by omega)]; omega
theorem sr_c (x : Int32) (h : ¬ (sr x 5).toInt < 2) : sr x 5 = 2 ∨ sr x 5 = 3 ∨ sr x 5 = 4 := by
  obtain ⟨n, hn, e⟩ := sr_nat x (m := 5) (by decide) (by decide)
  have e : sr x 5 = nI n := e
  rw [e, nI_toInt (by omega)] at h
  rw [e]
  rcases (show n = 2 ∨ n = 3 ∨ n = 4 by omega) with rfl | rfl | rfl
  · exact Or.inl rfl
  · exact Or.inr (Or.inl rfl)
  · exact Or.inr (Or.inr rfl)
theorem sr_6 (x : Int32) : 0 ≤ (sr x 6).toInt ∧ (sr x 6).toInt ≤ 5 := by
  obtain ⟨n, hn, e⟩ := sr_nat x (m := 6) (by decide) (by decide)
  rw [show sr x 6 = nI n from e, nI_toInt (by omega)]; omega
theorem sr_8 (x : Int32) (a : Nat) (ha : a < 1000) : (a : Int) ≤ (nI a + sr x 8).toInt ∧ (nI a + sr x 8).toInt ≤ a + 7 := by
  obtain ⟨n, hn, e⟩ := sr_nat x (m := 8) (by decide) (by decide)
  rw [show sr x 8 = nI n from e, nI_add, nI_toInt (by omega)]; omega
def sea : Nat → Int32 → Int32 → Int32
  | 0, _, k => k
  | n + 1, x, k => if (sr (sx x) 5).toInt < 2 then sea n (sx x) (k + 1) else sea n (sx (sx x)) k
theorem sea_lt {n : Nat} {x k : Int32} (h : (sr (sx x) 5).toInt < 2) : sea (n + 1) x k = sea n (sx x) (k + 1) := if_pos h
theorem sea_ge {n : Nat} {x k : Int32} (h : ¬ (sr (sx x) 5).toInt < 2) : sea (n + 1) x k = sea n (sx (sx x)) k := if_neg h
def fo_season (p0 p1 : Int32) : Int32 := if 1 ≤ p1.toInt ∧ p1.toInt ≤ 40 then sea p1.toNatClampNeg p0 0 else -3
def fo_feed (p0 : Int32) (p1 : Int32) (p2 : Int32) (p3 : Int32) (p4 : Int32) : Int32 := 20
def fo_shop (p0 : Int32) : Int32 := if p0.toInt = 0 then -32 else -3
def fo_fault (p0 : Int32) : Int32 := if p0.toInt = 0 then 0 else -1
def fo_kind (p0 : Int32) (p1 : Int32) : Int32 := -2
def fo_buyer (p0 : Int32) (p1 : Int32) : Int32 := -2
def fo_wants (p0 : Int32) (p1 : Int32) : Int32 := -99000002
def fo_seed (p0 : Int32) : Int32 := 0
def fo_visit (p0 : Int32) : Int32 := -11
def fo_gift (p0 : Int32) : Int32 := -11
def fo_hide (p0 : Int32) : Int32 := -11
def fo_add (p0 : Int32) (p1 : Int32) : Int32 := if 1 ≤ p0.toInt ∧ p0.toInt ≤ 99 ∧ 0 ≤ p1.toInt ∧ p1.toInt ≤ 9 then -12 else -11
def fo_price (p0 : Int32) (p1 : Int32) : Int32 := -11
def fo_days (p0 : Int32) : Int32 := if 1 ≤ p0.toInt ∧ p0.toInt ≤ 99 then 0 else -3
def fo_undo (p0 : Int32) : Int32 := -3
def fo_judge (p0 : Int32) (p1 : Int32) : Int32 := if 0 ≤ p0.toInt ∧ p0.toInt ≤ 3 ∧ 0 ≤ p1.toInt ∧ p1.toInt ≤ 3 then -6 else -2
def fo_perform (p0 : Int32) : Int32 := if 0 ≤ p0.toInt ∧ p0.toInt ≤ 3 then -6 else -2
def fo_ending : Int32 := 0
def fo_endingBy (p0 : Int32) : Int32 := if p0.toInt < 0 then -3 else -1
def fo_endings (p0 : Int32) : Int64 := if 0 ≤ p0.toInt ∧ p0.toInt ≤ 15 then (if p0.toInt = 0 then 1 else 0) else -3
def fo_needed : Int32 := 0
def fo_sellable : Int32 := 0
def fo_guards : Int32 := 0
def fo_last : Int32 := 0
def fo_open (p0 : Int32) (p1 : Int32) : Int64 := if 0 ≤ p1.toInt ∧ p1.toInt ≤ 1 then (if 0 ≤ p0.toInt ∧ p0.toInt ≤ 10 then (if p1.toInt = 0 then 0 else 1) else -3) else -2
def fo_likely (p0 : Int32) : Int32 := if 0 ≤ p0.toInt ∧ p0.toInt ≤ 100 then 0 else -3
def fo_shutsBy (p0 : Int32) (p1 : Int32) (p2 : Int32) : Int64 := -2
def fo_closer (p0 : Int32) : Int32 := if 0 ≤ p0.toInt ∧ p0.toInt ≤ 10 then -1 else -3
def fo_soldIn (p0 : Int32) (p1 : Int32) (p2 : Int32) : Int64 := -2
def fo_hides (p0 : Int32) (p1 : Int32) (p2 : Int32) : Int32 := if 0 ≤ p2.toInt ∧ p2.toInt ≤ 1 then (if 0 ≤ p0.toInt ∧ p0.toInt ≤ 3 ∧ 1 ≤ p1.toInt ∧ p1.toInt ≤ 6 then -5 else -3) else -2
def fo_rota (p0 : Int32) : Int32 := if 0 ≤ p0.toInt ∧ p0.toInt ≤ 1 then -5 else -2
def fo_earns (p0 : Int32) (p1 : Int32) : Int64 := if 0 ≤ p1.toInt ∧ p1.toInt ≤ 1 then (if 0 ≤ p0.toInt ∧ p0.toInt ≤ 8 then (if p1.toInt = 0 then 0 else 1) else -3) else -2
def fo_bestPrice (p0 : Int32) (p1 : Int32) : Int32 := -2
def fo_seen (p0 : Int32) : Int32 := if 0 ≤ p0.toInt ∧ p0.toInt ≤ 3 then -6 else -2
def fo_sureGone (p0 : Int32) : Int32 := if 0 ≤ p0.toInt ∧ p0.toInt ≤ 3 then -6 else -2
def fo_ask (p0 : Int32) : Int32 := if 0 ≤ p0.toInt ∧ p0.toInt ≤ 3 then -6 else -2
def fo_came (p0 : Int32) : Int64 := if 0 ≤ p0.toInt ∧ p0.toInt ≤ 3 then -6 else -2
def fo_who (p0 : Int32) (p1 : Int32) : Int32 := if 0 ≤ p0.toInt ∧ p0.toInt ≤ 3 then -6 else -2
def fo_numbers (p0 : Int32) (p1 : Int32) (p2 : Int32) : Int32 := if 0 ≤ p0.toInt ∧ p0.toInt ≤ 3 ∧ 0 ≤ p1.toInt ∧ p1.toInt ≤ 3 then (if 0 ≤ p2.toInt ∧ p2.toInt ≤ 40 then 0 else -3) else -2
def fo_write (p0 : Int32) (p1 : Int32) (p2 : Int64) : Int64 := if 0 ≤ p0.toInt ∧ p0.toInt ≤ 3 then -6 else -2
def fo_lists (p0 : Int32) : Int32 := if 0 ≤ p0.toInt ∧ p0.toInt ≤ 3 then -6 else -2
def fo_image (p0 : Int32) : Int32 := if 0 ≤ p0.toInt ∧ p0.toInt ≤ 1 then 0 else -2
def fo_restore (p0 : Int32) : Int32 := if 0 ≤ p0.toInt ∧ p0.toInt ≤ 1 then -5 else -2
def fo_count (p0 : Int32) : Int32 := if 0 ≤ p0.toInt ∧ p0.toInt ≤ 11 then (if p0.toInt = 4 then 1 else 0) else -1
