/-! WHAT HOLDS BETWEEN THE CALLS -/
def wl (cs : List (Nat × Nat)) (c k : Nat) : Bool := cs.any (fun q => Nat.beq q.1 c && (Nat.beq q.2 1000 || Nat.beq q.2 k))
def prX (cs : List (Nat × Nat)) (i k : Nat) : Bool := !px (s_c i) k && !wl cs (s_c i) k
def prM (cs : List (Nat × Nat)) (i k : Nat) : Bool := !pm (s_c i) k && !wl cs (s_c i) k
theorem hPX (cs : List (Nat × Nat)) : PX (prX cs) := fun i k h => by unfold prX; rw [h]; rfl
theorem hPM (cs : List (Nat × Nat)) : PM (prM cs) := fun i k h => by unfold prM; rw [h]; rfl
theorem hXc {cs : List (Nat × Nat)} {i c k : Nat} (hc : wl cs c k = true) (h : s_c i = c) : prX cs i k = false := by unfold prX; rw [h, hc]; simp
theorem hMc {cs : List (Nat × Nat)} {i c k : Nat} (hc : wl cs c k = true) (h : s_c i = c) : prM cs i k = false := by unfold prM; rw [h, hc]; simp
theorem s_c_out {i : Nat} (h : ¬ i < mm_N) : s_c i = 999 := by
  unfold s_c; rw [List.getD_eq_getElem?_getD, List.getElem?_eq_none (by simpa [s_cl, mm_N] using h)]; rfl
theorem s_c_hi : ∀ i, i < mm_N → 98 ≤ i → s_c i = 11 ∨ 45 ≤ s_c i := by decide +kernel
theorem ble_f {a b : Nat} (h : b < a) : Nat.ble a b = false := Bool.eq_false_iff.mpr (fun q => by have := Nat.le_of_ble_eq_true q; omega)
theorem px_hi {c k : Nat} (h : c = 11 ∨ 45 ≤ c) : px c k = false := by
  unfold px
  rw [ble_f (show 10 < c by omega)]
  rcases h with rfl | h
  · rfl
  · rw [ble_f (show 44 < c by omega)]; simp
def LI0 (M : mm_M) : Prop := INV0 M ∧ b01 (PI M) = 1 ∧ b01 (CWA M) = 1
theorem iv_0 {M : mm_M} (pr : Nat → Nat → Bool) (h : LI0 M) : INV pr (keep pr M) M := ⟨h.1, rfl⟩
theorem iv_f {pr : Nat → Nat → Bool} {M M' : mm_M} (h : INV pr (keep pr M) M') {i k : Nat} (hp : pr i k = true) : M'.1 i k = M.1 i k := by
  rw [h.fI hp]; show (if pr i k = true then M.1 i k else 0) = _; rw [if_pos hp]
theorem xf {cs : List (Nat × Nat)} {M M' : mm_M} (h : INV (prX cs) (keep (prX cs) M) M') {i k : Nat} (hp : px (s_c i) k = false) (hc : wl cs (s_c i) k = false) : M'.1 i k = M.1 i k := iv_f h (by unfold prX; rw [hp, hc]; rfl)
theorem mf {cs : List (Nat × Nat)} {M M' : mm_M} (h : INV (prM cs) (keep (prM cs) M) M') {i k : Nat} (hp : pm (s_c i) k = false) (hc : wl cs (s_c i) k = false) : M'.1 i k = M.1 i k := iv_f h (by unfold prM; rw [hp, hc]; rfl)
theorem pi_q {M M' : mm_M} (h1 : M'.1 99 = M.1 99) (h2 : M'.1 105 = M.1 105) (h : b01 (PI M) = 1) : b01 (PI M') = 1 := b01_i (by
  intro c o hc
  rcases ppQ_c hc with rfl | rfl
  · rw [h1]; exact b01_e h _ o hc
  · rw [h2]; exact b01_e h _ o hc)
theorem wl_f {cs : List (Nat × Nat)} {c k : Nat} (h : ∀ q ∈ cs, q.1 ≠ c) : wl cs c k = false := by
  unfold wl
  rw [List.any_eq_false]
  intro q hq
  have : Nat.beq q.1 c = false := Bool.eq_false_iff.mpr (fun z => h q hq (Nat.eq_of_beq_eq_true z))
  rw [this]; simp
theorem li_x {cs : List (Nat × Nat)} (hcs : ∀ q ∈ cs, q.1 ≤ 44 ∧ q.1 ≠ 11) {M M' : mm_M} (h : LI0 M) (h2 : INV (prX cs) (keep (prX cs) M) M') : LI0 M' := by
  have e : ∀ i, 98 ≤ i → M'.1 i = M.1 i := fun i hi => funext fun k => by
    have hc : s_c i = 11 ∨ 45 ≤ s_c i := by
      by_cases q : i < mm_N
      · exact s_c_hi i q hi
      · rw [s_c_out q]; exact Or.inr (by decide)
    refine xf h2 (px_hi hc) (wl_f (fun q hq z => ?_))
    have := hcs q hq
    omega
  exact ⟨h2.1, pi_q (e 99 (by decide)) (e 105 (by decide)) h.2.1, cwa_c (e 99 (by decide)) h.2.2⟩
theorem ca_e {cs : List (Nat × Nat)} (hc : ∀ k, wl cs 45 k = false) {M M' : mm_M} (h2 : INV (prM cs) (keep (prM cs) M) M') {k : Nat} (hk : ca k = true) : M'.1 99 k = M.1 99 k := mf h2 (by show pm 45 k = false; unfold pm; rw [hk]; rfl) (hc k)
theorem ca_t : ∀ j, j < 3 → ∀ k, k < 1181 → ((2 ≤ k ∧ k ≤ 7) ∨ 281 ≤ k) → ca (1181 * j + k) = true := by
  intro j hj k hk h
  unfold ca
  rw [show (1181 * j + k) % 1181 = k by omega]
  rcases h with h | h
  · rw [Nat.ble_eq_true_of_le h.1, Nat.ble_eq_true_of_le h.2]; rfl
  · rw [Nat.ble_eq_true_of_le h]; simp
theorem zw_m {cs : List (Nat × Nat)} (hc : ∀ k, wl cs 45 k = false) {M M' : mm_M} (h : LI0 M) (h2 : INV (prM cs) (keep (prM cs) M) M') (j : Nat) (hj : j < 3) : zwB (fun k => M'.1 99 (1181 * j + k)) := by
  obtain ⟨z0, z1⟩ := b01_e h.2.2 j hj
  have e : ∀ k : Nat, k < 1181 → ((2 ≤ k ∧ k ≤ 7) ∨ 281 ≤ k) → M'.1 99 (1181 * j + k) = M.1 99 (1181 * j + k) := fun k hk q => ca_e hc h2 (ca_t j hj k hk q)
  have hb := h99b (iv_0 (prM cs) h) j hj
  have b0 : (M.1 99 (1181 * j + (4 + 0))).toInt + (M.1 99 (1181 * j + (6 + 0))).toInt ≤ 900 := z0.1
  have b1 : (M.1 99 (1181 * j + (4 + 1))).toInt + (M.1 99 (1181 * j + (6 + 1))).toInt ≤ 900 := z1.1
  refine ⟨zwL_c (e _ (by decide) (by decide)) (e _ (by decide) (by decide)) (e _ (by decide) (by decide)) (fun p q1 q2 => e p ?_ (Or.inr q1)) (hb 0 (by decide)) z0, zwL_c (e _ (by decide) (by decide)) (e _ (by decide) (by decide)) (e _ (by decide) (by decide)) (fun p q1 q2 => e p ?_ (Or.inr q1)) (hb 1 (by decide)) z1⟩
  · omega
  · omega
theorem li_cw {cs : List (Nat × Nat)} (hc : ∀ k, wl cs 45 k = false) {M : mm_M} (h : LI0 M) : CWK (prM cs) (keep (prM cs) M) := by
  intro N hN
  have := zw_m hc h hN 0 (by decide)
  simpa using this
theorem li_m {cs : List (Nat × Nat)} (hc : ∀ k, wl cs 45 k = false) {M M' : mm_M} (h : LI0 M) (h2 : INV (prM cs) (keep (prM cs) M) M') (hp : b01 (PI M') = 1) : LI0 M' := ⟨h2.1, hp, b01_i (fun j hj => zw_m hc h h2 j hj)⟩
theorem li_0 {pr : Nat → Nat → Bool} {M M' : mm_M} (h2 : INV pr (keep pr M) M') (hp : b01 (PI M') = 1) (hc : b01 (CWA M') = 1) : LI0 M' := ⟨h2.1, hp, hc⟩
/-! THE TIES -/
def T1 (M : mm_M) : Prop := (M.1 0 1).toInt = (M.1 98 5).toInt
def T2 (M : mm_M) : Prop := (M.1 60 0).toInt = (M.1 100 0).toInt ∧ (M.1 69 0).toInt = (M.1 100 1).toInt
def TR (M : mm_M) (q : Nat) : Prop := ((M.1 115 q).toInt = -1 ∧ (M.1 (s_p0 50 q) 2).toInt = -1) ∨ (0 ≤ (M.1 115 q).toInt ∧ (M.1 115 q).toInt = (M.1 (s_p0 50 q) 1).toInt ∧ 0 ≤ (M.1 (s_p0 50 q) 2).toInt ∧ (M.1 116 q).toInt = (M.1 (s_p0 50 q) 2).toInt)
def T3 (M : mm_M) : Prop := ∀ q : Nat, q < 4 → TR M q
def T5 (M : mm_M) : Prop := (M.1 0 2).toInt = (M.1 98 13).toInt ∧ (M.1 0 3).toInt = (M.1 98 14).toInt
def LI (M : mm_M) : Prop := LI0 M ∧ T1 M ∧ T2 M ∧ T3 M ∧ T4 M ∧ T5 M
section TT
variable {cs : List (Nat × Nat)} {M M' : mm_M}
theorem t1_x (h : T1 M) (h2 : INV (prX cs) (keep (prX cs) M) M') (c1 : wl cs 10 1 = false) (c2 : wl cs 11 5 = false) : T1 M' := by
  unfold T1 at *
  rw [xf h2 (i := 0) (k := 1) rfl c1, xf h2 (i := 98) (k := 5) rfl c2]; exact h
theorem t1_m (h : T1 M) (h2 : INV (prM cs) (keep (prM cs) M) M') (c1 : wl cs 10 1 = false) (c2 : wl cs 11 5 = false) : T1 M' := by
  unfold T1 at *
  rw [mf h2 (i := 0) (k := 1) rfl c1, mf h2 (i := 98) (k := 5) rfl c2]; exact h
theorem t2_x (h : T2 M) (h2 : INV (prX cs) (keep (prX cs) M) M') (c1 : wl cs 2 0 = false) (c2 : ∀ k, wl cs 46 k = false) : T2 M' := by
  unfold T2 at *
  rw [xf h2 (i := 60) (k := 0) rfl c1, xf h2 (i := 69) (k := 0) rfl c1, xf h2 (i := 100) (k := 0) rfl (c2 0), xf h2 (i := 100) (k := 1) rfl (c2 1)]; exact h
theorem t2_m (h : T2 M) (h2 : INV (prM cs) (keep (prM cs) M) M') (c1 : wl cs 2 0 = false) (c2 : ∀ k, wl cs 46 k = false) : T2 M' := by
  unfold T2 at *
  rw [mf h2 (i := 60) (k := 0) rfl c1, mf h2 (i := 69) (k := 0) rfl c1, mf h2 (i := 100) (k := 0) rfl (c2 0), mf h2 (i := 100) (k := 1) rfl (c2 1)]; exact h
theorem t3_x (h : T3 M) (h2 : INV (prX cs) (keep (prX cs) M) M') (c1 : wl cs 9 1 = false ∧ wl cs 9 2 = false) (c2 : ∀ k, wl cs 61 k = false) (c3 : ∀ k, wl cs 62 k = false) : T3 M' := fun q hq => by
  have hc := p50_c q hq
  have := h q hq
  unfold TR at *
  rw [xf h2 (i := 115) (k := q) rfl (c2 q), xf h2 (i := 116) (k := q) rfl (c3 q), xf h2 (i := s_p0 50 q) (k := 1) (by rw [hc]; rfl) (by rw [hc]; exact c1.1), xf h2 (i := s_p0 50 q) (k := 2) (by rw [hc]; rfl) (by rw [hc]; exact c1.2)]
  exact this
theorem t3_m (h : T3 M) (h2 : INV (prM cs) (keep (prM cs) M) M') (c1 : wl cs 9 1 = false ∧ wl cs 9 2 = false) (c2 : ∀ k, wl cs 61 k = false) (c3 : ∀ k, wl cs 62 k = false) : T3 M' := fun q hq => by
  have hc := p50_c q hq
  have := h q hq
  unfold TR at *
  rw [mf h2 (i := 115) (k := q) rfl (c2 q), mf h2 (i := 116) (k := q) rfl (c3 q), mf h2 (i := s_p0 50 q) (k := 1) (by rw [hc]; rfl) (by rw [hc]; exact c1.1), mf h2 (i := s_p0 50 q) (k := 2) (by rw [hc]; rfl) (by rw [hc]; exact c1.2)]
  exact this
theorem t4_x (h : T4 M) (h2 : INV (prX cs) (keep (prX cs) M) M') (c1 : wl cs 10 1 = false) (c2 : ∀ k, wl cs 20 k = false) (c3 : ∀ k, wl cs 47 k = false) : T4 M' := fun k hk => by
  rw [xf h2 (i := 0) (k := 1) rfl c1] at hk
  rw [xf h2 (i := 1) (k := k) rfl (c2 k), xf h2 (i := 101) (k := k) rfl (c3 k)]
  exact h k hk
theorem t4_m2 (h : T4 M) (h2 : INV (prM cs) (keep (prM cs) M) M') (c1 : wl cs 10 1 = false) (c2 : ∀ k, wl cs 20 k = false) (c3 : ∀ k, wl cs 47 k = false) : T4 M' := fun k hk => by
  rw [mf h2 (i := 0) (k := 1) rfl c1] at hk
  rw [mf h2 (i := 1) (k := k) rfl (c2 k), mf h2 (i := 101) (k := k) rfl (c3 k)]
  exact h k hk
theorem t5_x (h : T5 M) (h2 : INV (prX cs) (keep (prX cs) M) M') (c1 : wl cs 10 2 = false ∧ wl cs 10 3 = false) (c2 : wl cs 11 13 = false ∧ wl cs 11 14 = false) : T5 M' := by
  unfold T5 at *
  rw [xf h2 (i := 0) (k := 2) rfl c1.1, xf h2 (i := 0) (k := 3) rfl c1.2, xf h2 (i := 98) (k := 13) rfl c2.1, xf h2 (i := 98) (k := 14) rfl c2.2]; exact h
theorem t5_m (h : T5 M) (h2 : INV (prM cs) (keep (prM cs) M) M') (c1 : wl cs 10 2 = false ∧ wl cs 10 3 = false) (c2 : wl cs 11 13 = false ∧ wl cs 11 14 = false) : T5 M' := by
  unfold T5 at *
  rw [mf h2 (i := 0) (k := 2) rfl c1.1, mf h2 (i := 0) (k := 3) rfl c1.2, mf h2 (i := 98) (k := 13) rfl c2.1, mf h2 (i := 98) (k := 14) rfl c2.2]; exact h
end TT
theorem t3_n {M M1 M2 : mm_M} {t s n : Int} (h : T3 M) (h1 : b01 (NBX M M1 t s n) = 1) (h2 : b01 (NBM M1 M2 t s n) = 1) (e1 : ∀ q, M1.1 115 q = M.1 115 q) (e2 : ∀ q, M1.1 116 q = M.1 116 q) (e3 : ∀ q, q < 4 → M2.1 (s_p0 50 q) 1 = M1.1 (s_p0 50 q) 1) (e4 : ∀ q, q < 4 → M2.1 (s_p0 50 q) 2 = M1.1 (s_p0 50 q) 2) : T3 M2 := fun q hq => by
  have a := b01_e h1 q hq
  have b := b01_e h2 q hq
  have c := h q hq
  unfold TR at *
  rw [e3 q hq, e4 q hq]
  rw [e1 q, e2 q] at b
  omega
theorem t3_at {M : mm_M} (h : T3 M) (x : Int) : (x < 0 ∨ 3 < x) ∨ ((0 ≤ x ∧ x ≤ 3) ∧ (((M.1 115 x.toNat).toInt = -1 ∧ (M.1 (s_p0 50 x.toNat) 2).toInt = -1) ∨ (0 ≤ (M.1 115 x.toNat).toInt ∧ (M.1 115 x.toNat).toInt = (M.1 (s_p0 50 x.toNat) 1).toInt ∧ 0 ≤ (M.1 (s_p0 50 x.toNat) 2).toInt ∧ (M.1 116 x.toNat).toInt = (M.1 (s_p0 50 x.toNat) 2).toInt))) := by
  by_cases q : 0 ≤ x ∧ x ≤ 3
  · exact Or.inr ⟨q, h x.toNat (by omega)⟩
  · exact Or.inl (by omega)
theorem ct_or (v x y : Int) : ¬ x = y ∨ ctF v x = ctF v y := by
  by_cases q : x = y
  · exact Or.inr (by rw [q])
  · exact Or.inl q
theorem sbN_p (b : Int) : b < -2147483677 ∨ 2147483618 < b ∨ sbN b = -30 - b := by
  rw [sbN_e]
  by_cases h : -2147483648 ≤ -30 - b ∧ -30 - b ≤ 2147483647
  · right; right; unfold subI; rw [sI_sub, sI_t h]
  · omega
theorem im_p (M : mm_M) (x : Int) : (x = 0 ∧ (M.1 100 x.toNat).toInt = (M.1 100 0).toInt) ∨ (x = 1 ∧ (M.1 100 x.toNat).toInt = (M.1 100 1).toInt) ∨ x < 0 ∨ 1 < x := by
  by_cases h0 : x = 0
  · subst h0; exact Or.inl ⟨rfl, rfl⟩
  · by_cases h1 : x = 1
    · subst h1; exact Or.inr (Or.inl ⟨rfl, rfl⟩)
    · omega


