/-! the class's trays, their numbers -/
theorem wJ_at {M N : mm_M} {c k : Nat} {v : Int64} (e : N = wJ M c k v) : N.2.1 c k = v := by rw [e]; exact u2_s _ _ _ _
theorem wJ_nk {M N : mm_M} {c k j : Nat} {v : Int64} (e : N = wJ M c k v) (h : j ≠ k) : N.2.1 c j = M.2.1 c j := by rw [e]; exact u2_b _ _ h
def FIJ (M : mm_M) (c : Nat) (v n : Int) : Prop := ∀ k : Nat, (k : Int) < n → (M.2.1 c k).toInt = v
theorem fij_0 (M : mm_M) (c : Nat) (v : Int) : b01 (FIJ M c v 0) = 1 := b01_i (fun k h => by omega)
theorem fij_s {M N : mm_M} {c : Nat} {v n n' : Int} (h : b01 (FIJ M c v n) = 1) (e : N = wJ M c n.toNat (sJ v)) (q : 0 ≤ n ∧ n' = n + 1 ∧ -9223372036854775808 ≤ v ∧ v ≤ 9223372036854775807) : b01 (FIJ N c v n') = 1 := b01_i (fun k hk => by
  by_cases z : k = n.toNat
  · rw [z, wJ_at e]; exact sJ_t ⟨q.2.2.1, q.2.2.2⟩
  · rw [wJ_nk e z]; exact b01_e h k (by omega))
def TRQ (M N : mm_M) (q : Nat) : Prop := N.1 (s_p0 50 q) = M.1 (s_p0 50 q) ∧ N.2.1 (s_p0 (s_p0 50 q) 0) = M.2.1 (s_p0 (s_p0 50 q) 0)
def TRS (M N : mm_M) : Prop := ∀ q : Nat, q < 4 → TRQ M N q
def TRN (M N : mm_M) (t s n : Int) : Prop := (∀ q : Nat, q < 4 → ¬ (q : Int) = t → TRQ M N q) ∧ (N.1 (s_p0 50 t.toNat) 1).toInt = s ∧ (N.1 (s_p0 50 t.toNat) 2).toInt = n ∧ FIJ N (s_p0 (s_p0 50 t.toNat) 0) 0 40
def TRW (M N : mm_M) (t i v : Int) : Prop := (∀ q : Nat, q < 4 → ¬ (q : Int) = t → TRQ M N q) ∧ N.1 (s_p0 50 t.toNat) = M.1 (s_p0 50 t.toNat) ∧ (∀ k : Nat, ¬ (k : Int) = i → N.2.1 (s_p0 (s_p0 50 t.toNat) 0) k = M.2.1 (s_p0 (s_p0 50 t.toNat) 0) k) ∧ (N.2.1 (s_p0 (s_p0 50 t.toNat) 0) i.toNat).toInt = v
def TRD (S : List Nat) (q : Nat) : Bool := decide (s_p0 50 q ∉ S ∧ s_p0 (s_p0 50 q) 0 ∉ S)
theorem trq_f {S : List Nat} {M N : mm_M} {q : Nat} (h : FX S M N) (hq : TRD S q = true) : TRQ M N q := ⟨h.cell (of_decide_eq_true hq).1, h.cellJ (of_decide_eq_true hq).2⟩
theorem trs_f {S : List Nat} {M N : mm_M} (h : FX S M N) (hq : ∀ q, q < 4 → TRD S q = true) : b01 (TRS M N) = 1 := b01_i (fun q h4 => trq_f h (hq q h4))
theorem trs_r (M : mm_M) : b01 (TRS M M) = 1 := b01_i (fun _ _ => ⟨rfl, rfl⟩)
theorem trn_i {S : List Nat} {M N : mm_M} {c : Nat} {s n : Int} (h : FX S M N) (hq : ∀ q, q < 4 → q ≠ c → TRD S q = true) (h1 : (N.1 (s_p0 50 c) 1).toInt = s) (h2 : (N.1 (s_p0 50 c) 2).toInt = n) (hf : FIJ N (s_p0 (s_p0 50 c) 0) 0 40) : b01 (TRN M N (c : Int) s n) = 1 := b01_i ⟨fun q h4 hn => trq_f h (hq q h4 (by omega)), h1, h2, hf⟩
theorem trw_i {S : List Nat} {M N : mm_M} {c : Nat} {i v : Int} (h : FX S M N) (hq : ∀ q, q < 4 → q ≠ c → TRD S q = true) (h1 : s_p0 50 c ∉ S) (e : N.2.1 (s_p0 (s_p0 50 c) 0) = uJ (M.2.1 (s_p0 (s_p0 50 c) 0)) i.toNat v) (hv : (-9223372036854775808 ≤ v ∧ v ≤ 9223372036854775807) ∧ 0 ≤ i) : b01 (TRW M N (c : Int) i v) = 1 := b01_i ⟨fun q h4 hn => trq_f h (hq q h4 (by omega)), h.cell h1, fun k hk => by
  show N.2.1 (s_p0 (s_p0 50 c) 0) k = _
  rw [e]; unfold uJ; rw [if_neg (by omega)]; rfl, by
  show (N.2.1 (s_p0 (s_p0 50 c) 0) i.toNat).toInt = v
  rw [e]; unfold uJ; rw [if_pos rfl]; exact sJ_t hv.1⟩
theorem ctF_b (v s : Int) (hv : -9223372036854775808 ≤ v ∧ v ≤ 9223372036854775807) : -9223372036854775808 ≤ ctF v s ∧ ctF v s ≤ 9223372036854775807 := by
  have h : ∀ a : Int, -9223372036854775808 ≤ w32 a ∧ w32 a ≤ 9223372036854775807 := fun a => by have := sI_r (sI a); unfold w32; omega
  have h8 : ∀ a : Int, -9223372036854775808 ≤ i8F a ∧ i8F a ≤ 9223372036854775807 := fun a => by unfold i8F; have := sI_r (sI a).toInt8.toInt32; omega
  have h16 : ∀ a : Int, -9223372036854775808 ≤ i16F a ∧ i16F a ≤ 9223372036854775807 := fun a => by unfold i16F; have := sI_r (sI a).toInt16.toInt32; omega
  rcases ctF_s v s with q | q | q | q
  · rw [q.2]; exact h8 _
  · rw [q.2]; exact h16 _
  · rw [q.2]; exact h _
  · rw [q.2.2.2]; exact hv
