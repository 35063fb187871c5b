/-! WHAT HOLDS BETWEEN THE CALLS -/
def wl (cs : List (Nat × Nat)) (c k : Nat) : Bool := cs.any (fun q => Nat.beq q.1 c && (Nat.beq q.2 1000 || Nat.beq q.2 k))
def prX (cs : List (Nat × Nat)) (i k : Nat) : Bool := !px (s_c i) k && !wl cs (s_c i) k
def prM (cs : List (Nat × Nat)) (i k : Nat) : Bool := !pm (s_c i) k && !wl cs (s_c i) k
theorem hPX (cs : List (Nat × Nat)) : PX (prX cs) := fun i k h => by unfold prX; rw [h]; rfl
theorem hPM (cs : List (Nat × Nat)) : PM (prM cs) := fun i k h => by unfold prM; rw [h]; rfl
theorem hXc {cs : List (Nat × Nat)} {i c k : Nat} (hc : wl cs c k = true) (h : s_c i = c) : prX cs i k = false := by unfold prX; rw [h, hc]; simp
theorem hMc {cs : List (Nat × Nat)} {i c k : Nat} (hc : wl cs c k = true) (h : s_c i = c) : prM cs i k = false := by unfold prM; rw [h, hc]; simp
theorem s_c_out {i : Nat} (h : ¬ i < mm_N) : s_c i = 999 := by
  unfold s_c; rw [List.getD_eq_getElem?_getD, List.getElem?_eq_none (by simpa [s_cl, mm_N] using h)]; rfl
theorem s_c_hi : ∀ i, i < mm_N → 98 ≤ i → s_c i = 11 ∨ 45 ≤ s_c i := by decide +kernel
theorem ble_f {a b : Nat} (h : b < a) : Nat.ble a b = false := Bool.eq_false_iff.mpr (fun q => by have := Nat.le_of_ble_eq_true q; omega)
theorem px_hi {c k : Nat} (h : c = 11 ∨ 45 ≤ c) : px c k = false := by
  unfold px
  rw [ble_f (show 10 < c by omega)]
  rcases h with rfl | h
  · rfl
  · rw [ble_f (show 44 < c by omega)]; simp
def LI0 (M : mm_M) : Prop := INV0 M ∧ b01 (PI M) = 1 ∧ b01 (CWA M) = 1
theorem iv_0 {M : mm_M} (pr : Nat → Nat → Bool) (h : LI0 M) : INV pr (keep pr M) M := ⟨h.1, rfl⟩
theorem iv_f {pr : Nat → Nat → Bool} {M M' : mm_M} (h : INV pr (keep pr M) M') {i k : Nat} (hp : pr i k = true) : M'.1 i k = M.1 i k := by
  rw [h.fI hp]; show (if pr i k = true then M.1 i k else 0) = _; rw [if_pos hp]
theorem xf {cs : List (Nat × Nat)} {M M' : mm_M} (h : INV (prX cs) (keep (prX cs) M) M') {i k : Nat} (hp : px (s_c i) k = false) (hc : wl cs (s_c i) k = false) : M'.1 i k = M.1 i k := iv_f h (by unfold prX; rw [hp, hc]; rfl)
theorem mf {cs : List (Nat × Nat)} {M M' : mm_M} (h : INV (prM cs) (keep (prM cs) M) M') {i k : Nat} (hp : pm (s_c i) k = false) (hc : wl cs (s_c i) k = false) : M'.1 i k = M.1 i k := iv_f h (by unfold prM; rw [hp, hc]; rfl)
theorem pi_q {M M' : mm_M} (h1 : M'.1 99 = M.1 99) (h2 : M'.1 105 = M.1 105) (h : b01 (PI M) = 1) : b01 (PI M') = 1 := b01_i (by
  intro c o hc
  rcases ppQ_c hc with rfl | rfl
  · rw [h1]; exact b01_e h _ o hc
  · rw [h2]; exact b01_e h _ o hc)
theorem wl_f {cs : List (Nat × Nat)} {c k : Nat} (h : ∀ q ∈ cs, q.1 ≠ c) : wl cs c k = false := by
  unfold wl
  rw [List.any_eq_false]
  intro q hq
  have : Nat.beq q.1 c = false := Bool.eq_false_iff.mpr (fun z => h q hq (Nat.eq_of_beq_eq_true z))
  rw [this]; simp
theorem li_x {cs : List (Nat × Nat)} (hcs : ∀ q ∈ cs, q.1 ≤ 44 ∧ q.1 ≠ 11) {M M' : mm_M} (h : LI0 M) (h2 : INV (prX cs) (keep (prX cs) M) M') : LI0 M' := by
  have e : ∀ i, 98 ≤ i → M'.1 i = M.1 i := fun i hi => funext fun k => by
    have hc : s_c i = 11 ∨ 45 ≤ s_c i := by
      by_cases q : i < mm_N
      · exact s_c_hi i q hi
      · rw [s_c_out q]; exact Or.inr (by decide)
    refine xf h2 (px_hi hc) (wl_f (fun q hq z => ?_))
    have := hcs q hq
    omega
  exact ⟨h2.1, pi_q (e 99 (by decide)) (e 105 (by decide)) h.2.1, cwa_c (e 99 (by decide)) h.2.2⟩
theorem ca_e {cs : List (Nat × Nat)} (hc : ∀ k, wl cs 45 k = false) {M M' : mm_M} (h2 : INV (prM cs) (keep (prM cs) M) M') {k : Nat} (hk : ca k = true) : M'.1 99 k = M.1 99 k := mf h2 (by show pm 45 k = false; unfold pm; rw [hk]; rfl) (hc k)
theorem ca_t : ∀ j, j < 3 → ∀ k, k < 1181 → ((2 ≤ k ∧ k ≤ 7) ∨ 281 ≤ k) → ca (1181 * j + k) = true := by
  intro j hj k hk h
  unfold ca
  rw [show (1181 * j + k) % 1181 = k by omega]
  rcases h with h | h
  · rw [Nat.ble_eq_true_of_le h.1, Nat.ble_eq_true_of_le h.2]; rfl
  · rw [Nat.ble_eq_true_of_le h]; simp
theorem zw_m {cs : List (Nat × Nat)} (hc : ∀ k, wl cs 45 k = false) {M M' : mm_M} (h : LI0 M) (h2 : INV (prM cs) (keep (prM cs) M) M') (j : Nat) (hj : j < 3) : zwB (fun k => M'.1 99 (1181 * j + k)) := by
  obtain ⟨z0, z1⟩ := b01_e h.2.2 j hj
  have e : ∀ k : Nat, k < 1181 → ((2 ≤ k ∧ k ≤ 7) ∨ 281 ≤ k) → M'.1 99 (1181 * j + k) = M.1 99 (1181 * j + k) := fun k hk q => ca_e hc h2 (ca_t j hj k hk q)
  have hb := h99b (iv_0 (prM cs) h) j hj
  have b0 : (M.1 99 (1181 * j + (4 + 0))).toInt + (M.1 99 (1181 * j + (6 + 0))).toInt ≤ 900 := z0.1
  have b1 : (M.1 99 (1181 * j + (4 + 1))).toInt + (M.1 99 (1181 * j + (6 + 1))).toInt ≤ 900 := z1.1
  refine ⟨zwL_c (e _ (by decide) (by decide)) (e _ (by decide) (by decide)) (e _ (by decide) (by decide)) (fun p q1 q2 => e p ?_ (Or.inr q1)) (hb 0 (by decide)) z0, zwL_c (e _ (by decide) (by decide)) (e _ (by decide) (by decide)) (e _ (by decide) (by decide)) (fun p q1 q2 => e p ?_ (Or.inr q1)) (hb 1 (by decide)) z1⟩
  · omega
  · omega
theorem li_cw {cs : List (Nat × Nat)} (hc : ∀ k, wl cs 45 k = false) {M : mm_M} (h : LI0 M) : CWK (prM cs) (keep (prM cs) M) := by
  intro N hN
  have := zw_m hc h hN 0 (by decide)
  simpa using this
theorem li_m {cs : List (Nat × Nat)} (hc : ∀ k, wl cs 45 k = false) {M M' : mm_M} (h : LI0 M) (h2 : INV (prM cs) (keep (prM cs) M) M') (hp : b01 (PI M') = 1) : LI0 M' := ⟨h2.1, hp, b01_i (fun j hj => zw_m hc h h2 j hj)⟩
theorem li_0 {pr : Nat → Nat → Bool} {M M' : mm_M} (h2 : INV pr (keep pr M) M') (hp : b01 (PI M') = 1) (hc : b01 (CWA M') = 1) : LI0 M' := ⟨h2.1, hp, hc⟩
/-! THE TIES -/
def T1 (M : mm_M) : Prop := (M.1 0 1).toInt = (M.1 98 5).toInt
def T2 (M : mm_M) : Prop := (M.1 60 0).toInt = (M.1 100 0).toInt ∧ (M.1 69 0).toInt = (M.1 100 1).toInt
def TR (M : mm_M) (q : Nat) : Prop := ((M.1 115 q).toInt = -1 ∧ (M.1 (s_p0 50 q) 2).toInt = -1) ∨ (0 ≤ (M.1 115 q).toInt ∧ (M.1 115 q).toInt = (M.1 (s_p0 50 q) 1).toInt ∧ 0 ≤ (M.1 (s_p0 50 q) 2).toInt ∧ (M.1 116 q).toInt = (M.1 (s_p0 50 q) 2).toInt)
def T3 (M : mm_M) : Prop := ∀ q : Nat, q < 4 → TR M q
def T5 (M : mm_M) : Prop := (M.1 0 2).toInt = (M.1 98 13).toInt ∧ (M.1 0 3).toInt = (M.1 98 14).toInt
def LI (M : mm_M) : Prop := LI0 M ∧ T1 M ∧ T2 M ∧ T3 M ∧ T4 M ∧ T5 M
section TT
variable {cs : List (Nat × Nat)} {M M' : mm_M}
theorem t1_x (h : T1 M) (h2 : INV (prX cs) (keep (prX cs) M) M') (c1 : wl cs 10 1 = false) (c2 : wl cs 11 5 = false) : T1 M' := by
  unfold T1 at *
  rw [xf h2 (i := 0) (k := 1) rfl c1, xf h2 (i := 98) (k := 5) rfl c2]; exact h
theorem t1_m (h : T1 M) (h2 : INV (prM cs) (keep (prM cs) M) M') (c1 : wl cs 10 1 = false) (c2 : wl cs 11 5 = false) : T1 M' := by
  unfold T1 at *
  rw [mf h2 (i := 0) (k := 1) rfl c1, mf h2 (i := 98) (k := 5) rfl c2]; exact h
theorem t2_x (h : T2 M) (h2 : INV (prX cs) (keep (prX cs) M) M') (c1 : wl cs 2 0 = false) (c2 : ∀ k, wl cs 46 k = false) : T2 M' := by
  unfold T2 at *
  rw [xf h2 (i := 60) (k := 0) rfl c1, xf h2 (i := 69) (k := 0) rfl c1, xf h2 (i := 100) (k := 0) rfl (c2 0), xf h2 (i := 100) (k := 1) rfl (c2 1)]; exact h
theorem t2_m (h : T2 M) (h2 : INV (prM cs) (keep (prM cs) M) M') (c1 : wl cs 2 0 = false) (c2 : ∀ k, wl cs 46 k = false) : T2 M' := by
  unfold T2 at *
  rw [mf h2 (i := 60) (k := 0) rfl c1, mf h2 (i := 69) (k := 0) rfl c1, mf h2 (i := 100) (k := 0) rfl (c2 0), mf h2 (i := 100) (k := 1) rfl (c2 1)]; exact h
theorem t3_x (h : T3 M) (h2 : INV (prX cs) (keep (prX cs) M) M') (c1 : wl cs 9 1 = false ∧ wl cs 9 2 = false) (c2 : ∀ k, wl cs 61 k = false) (c3 : ∀ k, wl cs 62 k = false) : T3 M' := fun q hq => by
  have hc := p50_c q hq
  have := h q hq
  unfold TR at *
  rw [xf h2 (i := 115) (k := q) rfl (c2 q), xf h2 (i := 116) (k := q) rfl (c3 q), xf h2 (i := s_p0 50 q) (k := 1) (by rw [hc]; rfl) (by rw [hc]; exact c1.1), xf h2 (i := s_p0 50 q) (k := 2) (by rw [hc]; rfl) (by rw [hc]; exact c1.2)]
  exact this
theorem t3_m (h : T3 M) (h2 : INV (prM cs) (keep (prM cs) M) M') (c1 : wl cs 9 1 = false ∧ wl cs 9 2 = false) (c2 : ∀ k, wl cs 61 k = false) (c3 : ∀ k, wl cs 62 k = false) : T3 M' := fun q hq => by
  have hc := p50_c q hq
  have := h q hq
  unfold TR at *
  rw [mf h2 (i := 115) (k := q) rfl (c2 q), mf h2 (i := 116) (k := q) rfl (c3 q), mf h2 (i := s_p0 50 q) (k := 1) (by rw [hc]; rfl) (by rw [hc]; exact c1.1), mf h2 (i := s_p0 50 q) (k := 2) (by rw [hc]; rfl) (by rw [hc]; exact c1.2)]
  exact this
theorem t4_x (h : T4 M) (h2 : INV (prX cs) (keep (prX cs) M) M') (c1 : wl cs 10 1 = false) (c2 : ∀ k, wl cs 20 k = false) (c3 : ∀ k, wl cs 47 k = false) : T4 M' := fun k hk => by
  rw [xf h2 (i := 0) (k := 1) rfl c1] at hk
  rw [xf h2 (i := 1) (k := k) rfl (c2 k), xf h2 (i := 101) (k := k) rfl (c3 k)]
  exact h k hk
theorem t4_m2 (h : T4 M) (h2 : INV (prM cs) (keep (prM cs) M) M') (c1 : wl cs 10 1 = false) (c2 : ∀ k, wl cs 20 k = false) (c3 : ∀ k, wl cs 47 k = false) : T4 M' := fun k hk => by
  rw [mf h2 (i := 0) (k := 1) rfl c1] at hk
  rw [mf h2 (i := 1) (k := k) rfl (c2 k), mf h2 (i := 101) (k := k) rfl (c3 k)]
  exact h k hk
theorem t5_x (h : T5 M) (h2 : INV (prX cs) (keep (prX cs) M) M') (c1 : wl cs 10 2 = false ∧ wl cs 10 3 = false) (c2 : wl cs 11 13 = false ∧ wl cs 11 14 = false) : T5 M' := by
  unfold T5 at *
  rw [xf h2 (i := 0) (k := 2) rfl c1.1, xf h2 (i := 0) (k := 3) rfl c1.2, xf h2 (i := 98) (k := 13) rfl c2.1, xf h2 (i := 98) (k := 14) rfl c2.2]; exact h
theorem t5_m (h : T5 M) (h2 : INV (prM cs) (keep (prM cs) M) M') (c1 : wl cs 10 2 = false ∧ wl cs 10 3 = false) (c2 : wl cs 11 13 = false ∧ wl cs 11 14 = false) : T5 M' := by
  unfold T5 at *
  rw [mf h2 (i := 0) (k := 2) rfl c1.1, mf h2 (i := 0) (k := 3) rfl c1.2, mf h2 (i := 98) (k := 13) rfl c2.1, mf h2 (i := 98) (k := 14) rfl c2.2]; exact h
end TT
theorem t3_n {M M1 M2 : mm_M} {t s n : Int} (h : T3 M) (h1 : b01 (NBX M M1 t s n) = 1) (h2 : b01 (NBM M1 M2 t s n) = 1) (e1 : ∀ q, M1.1 115 q = M.1 115 q) (e2 : ∀ q, M1.1 116 q = M.1 116 q) (e3 : ∀ q, q < 4 → M2.1 (s_p0 50 q) 1 = M1.1 (s_p0 50 q) 1) (e4 : ∀ q, q < 4 → M2.1 (s_p0 50 q) 2 = M1.1 (s_p0 50 q) 2) : T3 M2 := fun q hq => by
  have a := b01_e h1 q hq
  have b := b01_e h2 q hq
  have c := h q hq
  unfold TR at *
  rw [e3 q hq, e4 q hq]
  rw [e1 q, e2 q] at b
  omega
theorem t3_at {M : mm_M} (h : T3 M) (x : Int) : (x < 0 ∨ 3 < x) ∨ ((0 ≤ x ∧ x ≤ 3) ∧ (((M.1 115 x.toNat).toInt = -1 ∧ (M.1 (s_p0 50 x.toNat) 2).toInt = -1) ∨ (0 ≤ (M.1 115 x.toNat).toInt ∧ (M.1 115 x.toNat).toInt = (M.1 (s_p0 50 x.toNat) 1).toInt ∧ 0 ≤ (M.1 (s_p0 50 x.toNat) 2).toInt ∧ (M.1 116 x.toNat).toInt = (M.1 (s_p0 50 x.toNat) 2).toInt))) := by
  by_cases q : 0 ≤ x ∧ x ≤ 3
  · exact Or.inr ⟨q, h x.toNat (by omega)⟩
  · exact Or.inl (by omega)
theorem ct_or (v x y : Int) : ¬ x = y ∨ ctF v x = ctF v y := by
  by_cases q : x = y
  · exact Or.inr (by rw [q])
  · exact Or.inl q
theorem sbN_p (b : Int) : b < -2147483677 ∨ 2147483618 < b ∨ sbN b = -30 - b := by
  rw [sbN_e]
  by_cases h : -2147483648 ≤ -30 - b ∧ -30 - b ≤ 2147483647
  · right; right; unfold subI; rw [sI_sub, sI_t h]
  · omega
theorem im_p (M : mm_M) (x : Int) : (x = 0 ∧ (M.1 100 x.toNat).toInt = (M.1 100 0).toInt) ∨ (x = 1 ∧ (M.1 100 x.toNat).toInt = (M.1 100 1).toInt) ∨ x < 0 ∨ 1 < x := by
  by_cases h0 : x = 0
  · subst h0; exact Or.inl ⟨rfl, rfl⟩
  · by_cases h1 : x = 1
    · subst h1; exact Or.inr (Or.inl ⟨rfl, rfl⟩)
    · omega
/-! M1: THE WHOLE STATE -/
theorem iv_p {pr : Nat → Nat → Bool} {M M' : mm_M} (h : INV pr (keep pr M) M') {i k : Nat} (hp : pr i k = true) : M'.2.2 i k = M.2.2 i k := by
  rw [h.fP hp]; show (if pr i k = true then M.2.2 i k else 0) = _; rw [if_pos hp]
theorem xp {cs : List (Nat × Nat)} {M M' : mm_M} (h : INV (prX cs) (keep (prX cs) M) M') {i k : Nat} (hp : px (s_c i) k = false) (hc : wl cs (s_c i) k = false) : M'.2.2 i k = M.2.2 i k := iv_p h (by unfold prX; rw [hp, hc]; rfl)
def GPQ (M : mm_M) : Prop := (M.2.2 0 4 = 2 ∧ M.2.2 0 5 = 7) ∨ (M.2.2 0 4 = 7 ∧ M.2.2 0 5 = 2)
def LJ (i : Int) (M : mm_M) : Prop := LI M ∧ GPQ M ∧ CTS M (M.2.2 0 4) (M.1 99) (17 * i) ∧ TYT M
def QG (gp : Nat) : Prop := gp = 2 ∨ gp = 7
theorem qg_c {gp : Nat} (h : QG gp) : s_c gp = 6 := by rcases h with rfl | rfl <;> rfl
def dlK (i : Nat) : Bool := (Nat.ble 2 i && Nat.ble i 11) || (Nat.ble 60 i && Nat.ble i 77)
def clK (i : Nat) : Bool := dlK i || ((Nat.ble 12 i && Nat.ble i 14) || (Nat.ble 18 i && Nat.ble i 49))
def alK (i : Nat) : Bool := clK i || (Nat.ble 82 i && Nat.ble i 84)
theorem k_n {K : Nat → Bool} {S : List Nat} (h : S.all (fun i => !K i) = true) {i : Nat} (hi : K i = true) : i ∉ S := fun z => by
  have := List.all_eq_true.mp h i z
  rw [hi] at this; cases this
theorem k_m {K L : Nat → Bool} (hKL : ∀ i, L i = true → K i = true) {S : List Nat} (h : S.all (fun i => !K i) = true) : S.all (fun i => !L i) = true := List.all_eq_true.mpr (fun i hi => by
  cases e : L i
  · rfl
  · exact absurd hi (k_n h (hKL i e)))
theorem cl_dl (i : Nat) (h : dlK i = true) : clK i = true := by unfold clK; rw [h]; rfl
theorem al_cl (i : Nat) (h : clK i = true) : alK i = true := by unfold alK; rw [h]; rfl
theorem im0_k : ∀ i ∈ IM0, dlK i = true := by decide
theorem im1_k : ∀ i ∈ IM1, dlK i = true := by decide
theorem rng_k : ∀ j, j < 10 → clK (s_p0 19 j) = true ∧ clK (s_p0 (s_p0 19 j) 1) = true ∧ clK (s_p0 (s_p0 19 j) 2) = true := by decide
theorem fx_q {S : List Nat} {M N : mm_M} {gp : Nat} (hq : QG gp) (hf : FX S M N) (hS : S.all (fun i => !dlK i) = true) : PLE M N gp ∧ SMC N M IM0 ∧ SMC N M IM1 := by
  refine ⟨?_, fun i hi => hf.cell (k_n hS (im0_k i hi)), fun i hi => hf.cell (k_n hS (im1_k i hi))⟩
  rcases hq with rfl | rfl
  · exact ⟨hf.cell (k_n hS (by decide)), hf.cell (k_n hS (by decide)), hf.cell (k_n hS (by decide)), hf.cell (k_n hS (by decide)), hf.cell (k_n hS (by decide))⟩
  · exact ⟨hf.cell (k_n hS (by decide)), hf.cell (k_n hS (by decide)), hf.cell (k_n hS (by decide)), hf.cell (k_n hS (by decide)), hf.cell (k_n hS (by decide))⟩
theorem fx_c {S : List Nat} {M N : mm_M} {gp : Nat} (hq : QG gp) (hf : FX S M N) (hS : S.all (fun i => !clK i) = true) : (PLE M N gp ∧ SMC N M IM0 ∧ SMC N M IM1) ∧ rwX N gp 12 = rwX M gp 12 ∧ RG0 M N := by
  have q := fx_q hq hf (k_m cl_dl hS)
  refine ⟨q, rx_f q.1 ⟨hf.cell (k_n hS (by decide)), hf.cell (k_n hS (by decide)), hf.cell (k_n hS (by decide))⟩, b01_e (rg_0 hf (k_n hS (by decide)) (fun j hj => ?_))⟩
  have r := rng_k j hj
  exact decide_eq_true ⟨k_n hS r.1, k_n hS r.2.1, k_n hS r.2.2⟩
theorem fin_x {M N : mm_M} {gp : Nat} {f : Nat → Int32} {x y : Int} {S : List Nat} (hq : QG gp) (hb : INV0 M) (h : CTS M gp f x) (hf : FX S M N) (hS : S.all (fun i => !clK i) = true) (ha : b01 (APX N gp) = 1) (hx : x ≤ y) : CTS N gp f y := by
  obtain ⟨⟨a, b, c⟩, d, e⟩ := fx_c hq hf hS
  exact cts_k (bpx_i hb) (qg_c hq) h a d ha b c e hx
theorem fin_a {M N : mm_M} {gp : Nat} {f : Nat → Int32} {x y : Int} {S : List Nat} (hq : QG gp) (hb : INV0 M) (h : CTS M gp f x) (hf : FX S M N) (hS : S.all (fun i => !alK i) = true) (hx : x ≤ y) : CTS N gp f y := by
  have B := bpx_i hb gp (qg_c hq)
  have c := fx_c hq hf (k_m al_cl hS)
  exact fin_x hq hb h hf (k_m al_cl hS) (apx_o c.1.1 (hf.cell (k_n hS (by decide))) (hf.cell (k_n hS (by decide))) (hf.cell (k_n hS (by decide))) B.1 B.2.1 (b01_i h.1.2)) hx
theorem fr_x {S : List Nat} {M N : mm_M} (h : FR S M N) : FX S M N := ⟨h.1, fun i k _ => by rw [h.2.1], h.2.2⟩
theorem fin_m {M N : mm_M} {gp : Nat} {f : Nat → Int32} {x : Int} {S : List Nat} (hq : QG gp) (hb : INV0 M) (h : CTS M gp f x) (hf : FR S M N) (hS : S.all (fun i => !alK i) = true) (e : N.1 99 = f) : CTS N gp (N.1 99) x := by
  rw [e]; exact fin_a hq hb h (fr_x hf) hS (Int.le_refl _)
theorem pre_c {M : mm_M} {gp : Nat} {x : Int} (h : CTS M gp (M.1 99) x) (hp : b01 (PI M) = 1) (hx : x ≤ 1000000) : b01 (APX M gp) = 1 ∧ b01 (LAW M gp) = 1 ∧ b01 (PRR (rwX M gp 12)) = 1 ∧ (0 ≤ (M.1 12 6).toInt ∧ (M.1 12 6).toInt ≤ 1000000) ∧ (M.1 12 3).toInt < pw2 (M.1 12 0).toInt := by
  have hE := h.1.1.1
  have hs := h.1.1.2.2.2
  have k := eq_k hE
  have h30 : 0 ≤ (M.1 99 30).toInt ∧ (M.1 99 30).toInt ≤ x := hs.2
  have e0 : M.1 12 0 = M.1 99 26 := k.1
  have e3 : M.1 12 3 = M.1 99 27 := k.2.1
  have e6 : M.1 12 6 = M.1 99 30 := k.2.2.2.2.1
  refine ⟨b01_i h.1.2, b01_i h.1.1.2.1.1, b01_i (prr_g hE (prr_q hs hE.2.1)), by rw [e6]; omega, ?_⟩
  rw [e0, e3]
  exact b01_e hp 99 26 rfl
theorem r27 {M : mm_M} {gp : Nat} {f : Nat → Int32} (hb : INV0 M) (hE : EQR (rwX M gp 12) f) : 0 ≤ (f 27).toInt ∧ (f 27).toInt ≤ 255 := by
  have e3 : M.1 12 3 = f 27 := (eq_k hE).2.1
  rw [← e3]
  exact hb.rd (i := 12) (c := 8) (k := 3) rfl (show s_b 8 3 = (0, 255) from rfl)
theorem zwb3 {M : mm_M} (h : b01 (CWA M) = 1) : zwB (M.1 99) ∧ zwB (imR (M.1 99) 0) ∧ zwB (imR (M.1 99) 1) := by
  have h := b01_e h
  have a := h 0 (by decide)
  have b := h 1 (by decide)
  have c := h 2 (by decide)
  have e0 : (fun k => M.1 99 (1181 * 0 + k)) = M.1 99 := funext fun k => by rw [show 1181 * 0 + k = k by omega]
  have e1 : (fun k => M.1 99 (1181 * 1 + k)) = imR (M.1 99) 0 := funext fun k => by show M.1 99 _ = M.1 99 _; congr 1
  have e2 : (fun k => M.1 99 (1181 * 2 + k)) = imR (M.1 99) 1 := funext fun k => by show M.1 99 _ = M.1 99 _; congr 1
  rw [e0] at a
  rw [e1] at b
  rw [e2] at c
  exact ⟨a, b, c⟩
/-! answers alike -/
section AN
variable {R f : Nat → Int32}
theorem vs_A (hE : EQR R f) {b : Int} (hw : wvF f b = 0) : 0 ≤ bnF R b := by
  have s := wvF_s R b
  have m := bn_m1 R b
  rw [eq_wv hE] at s
  omega
theorem an_vs (hE : EQR R f) (b : Int) : aI (wvF R b) (bnF R b) = aI (wvF f b) (bnF f b) := by
  rw [eq_wv hE]
  have s := wvF_s f b
  unfold aI
  by_cases c : wvF f b = 0
  · rw [if_pos c, if_pos c, eq_bn hE (by omega)]
  · rw [if_neg c, if_neg c]
theorem an_gs (hE : EQR R f) (k : Int) : aI (wkF R k) (addI (R 30).toInt 1) = aI (wkF f k) (addI (f 30).toInt 1) := by rw [eq_wk hE, (eq_k hE).2.2.2.2.1]
theorem an_hs (hE : EQR R f) (k : Int) : aI (wkF R k) (andI (shrI (xorI (R 28).toInt (pw2 k)) k) 1) = aI (wkF f k) (andI (shrI (xorI (f 28).toInt (pw2 k)) k) 1) := by rw [eq_wk hE, (eq_k hE).2.2.1]
theorem an_as (hE : EQR R f) (n g : Int) : aI (waF R n g) (R 26).toInt = aI (waF f n g) (f 26).toInt := by rw [eq_wa hE, (eq_k hE).1]
theorem an_ps (hE : EQR R f) (k n : Int) : aI (wpF R k n) (R (33 + k).toNat).toInt = aI (wpF f k n) (f (33 + k).toNat).toInt := by
  rw [eq_wp hE]
  have s := wpF_s f k n
  unfold aI
  by_cases c : wpF f k n = 0
  · rw [if_pos c, if_pos c, (hE.1.2.2 k (by omega) (by omega)).1]
  · rw [if_neg c, if_neg c]
end AN
theorem andI_b (a : Int) : 0 ≤ andI a 1 ∧ andI a 1 ≤ 1 := sb_and (sI a) (sI 1) (by decide)
/-! what is read of the ties -/
theorem tye_i {M K : mm_M} (h3 : T3 M) (hy : TYT M) (hz : TSZ M) (e5 : K.1 115 = M.1 115) (e6 : K.1 116 = M.1 116) (eJ : K.2.1 117 = M.2.1 117) (t : Int) : TYE M K t := by
  have n := ntX_s M t
  have a := ntA_s K t
  have x := t3_at h3 t
  have ts : tsX M t = (M.1 (s_p0 50 t.toNat) 2).toInt := rfl
  rw [e5] at a
  refine ⟨by omega, fun c => ⟨by rw [e6]; omega, ⟨by omega, ?_⟩, fun i hi => ?_⟩⟩
  · have := hz t.toNat (by omega)
    omega
  · have q := hy t.toNat (by omega) i (by rw [← ts]; exact hi)
    show (M.2.1 (s_p0 (s_p0 50 t.toNat) 0) i).toInt = (K.2.1 117 (40 * t + (i : Int)).toNat).toInt
    rw [eJ, show (40 * t + (i : Int)).toNat = 40 * t.toNat + i by omega, q]
theorem nbx_x {M N : mm_M} {t s n a : Int} (ha : a = nuF t s n) (h : a = 0 ∧ b01 (TRN M N t s n) = 1 ∨ a < 0 ∧ b01 (TRS M N) = 1) : b01 (NBX M N t s n) = 1 := b01_i (fun q hq => by
  have z := nuF_s t s n
  rcases h with ⟨h0, h⟩ | ⟨h0, h⟩
  · obtain ⟨x1, x2, x3, _⟩ := b01_e h
    by_cases c : (q : Int) = t
    · have kt : t.toNat = q := by omega
      rw [kt] at x2 x3
      exact Or.inl ⟨by omega, x2, x3⟩
    · have y := x1 q hq c
      exact Or.inr ⟨by omega, by rw [y.1], by rw [y.1]⟩
  · have y := b01_e h q hq
    exact Or.inr ⟨by omega, by rw [y.1], by rw [y.1]⟩)
theorem smc_or {M N : mm_M} {L : List Nat} {i : Nat} (h : i ∈ L) (k : Nat) : ¬ b01 (SMC N M L) = 1 ∨ (N.1 i k).toInt = (M.1 i k).toInt := by
  by_cases c : b01 (SMC N M L) = 1
  · exact Or.inr (by rw [b01_e c i h])
  · exact Or.inl c
theorem trs_e {M N : mm_M} {S : List Nat} (h : b01 (SME N M S) = 1) (hj : b01 (SMJX N M) = 1) (hS : ∀ q, q < 4 → s_p0 50 q ∉ S) : b01 (TRS M N) = 1 := b01_i (fun q hq => ⟨b01_e h _ (hS q hq), b01_e hj q hq⟩)
theorem gpq_c {M N : mm_M} (h : GPQ M) (e4 : N.2.2 0 4 = M.2.2 0 4) (e5 : N.2.2 0 5 = M.2.2 0 5) : GPQ N := by unfold GPQ at *; rw [e4, e5]; exact h
theorem waF_b (f : Nat → Int32) (n g : Int) : 0 ≤ waF f n g := by have := waF_s f n g; omega
theorem r26 {R f : Nat → Int32} (hE : EQR R f) : 0 ≤ (R 26).toInt := by rw [(eq_k hE).1]; exact hE.2.1.1
theorem cts_le {M : mm_M} {gp : Nat} {f : Nat → Int32} {x y : Int} (hb : BPX M) (cp : s_c gp = 6) (h : CTS M gp f x) (hx : x ≤ y) : CTS M gp f y :=
  cts_k hb cp h (ple_r M gp) rfl (b01_i h.1.2) (fun _ _ => rfl) (fun _ _ => rfl) ⟨rfl, fun _ _ => rfl⟩ hx
theorem lj_up {i : Int} {M : mm_M} (h : LJ i M) : LJ (i + 6) M := by
  have q : QG (M.2.2 0 4) := by
    rcases h.2.1 with ⟨z, _⟩ | ⟨z, _⟩
    · exact Or.inl z
    · exact Or.inr z
  exact ⟨h.1, h.2.1, cts_le (bpx_i h.1.1.1) (qg_c q) h.2.2.1 (by omega), h.2.2.2⟩
theorem ls_e {M K : mm_M} {R f : Nat → Int32} (t : Int) (hE : EQR R f) (hT : TYE M K t) : lsA (ntX M t) (enF R (-1)) (tsX M t) = lsA (ntA K t) (enF f (-1)) (K.1 116 t.toNat).toInt := by
  rw [eq_en hE, ← hT.1]
  unfold lsA
  by_cases c : ntX M t = 0
  · rw [if_pos c, if_pos c, (hT.2 c).1]
  · rw [if_neg c, if_neg c]
theorem t4_sh {M M1 M2 : mm_M} {n : Int} (h : T4 M) (z : (M2.1 0 1).toInt ≤ 0 ∨ ((M2.1 0 1).toInt = (M.1 0 1).toInt ∧ ¬ (0 ≤ n ∧ n ≤ (M.1 0 1).toInt))) (a : ∀ k, M2.1 1 k = M1.1 1 k) (b : ∀ k, M2.1 101 k = M1.1 101 k) (c : ∀ k, M1.1 1 k = M.1 1 k) (d : ∀ k, M1.1 101 k = M.1 101 k) : T4 M2 := fun k hk => by
  rcases z with z | ⟨z, _⟩
  · omega
  · rw [a, b, c, d]; exact h k (by omega)
theorem xj {cs : List (Nat × Nat)} {M M' : mm_M} (h : INV (prX cs) (keep (prX cs) M) M') {i k : Nat} (hp : px (s_c i) k = false) (hc : wl cs (s_c i) k = false) : M'.2.1 i k = M.2.1 i k := by
  have q : prX cs i k = true := by unfold prX; rw [hp, hc]; rfl
  rw [h.fJ q]; show (if prX cs i k = true then M.2.1 i k else 0) = _; rw [if_pos q]
/-! images -/
def ilK (i : Nat) : Bool := ((Nat.ble 2 i && Nat.ble i 14) || (Nat.ble 18 i && Nat.ble i 49)) || (Nat.ble 82 i && Nat.ble i 84)
theorem rng_i : ∀ j, j < 10 → ilK (s_p0 19 j) = true ∧ ilK (s_p0 (s_p0 19 j) 1) = true ∧ ilK (s_p0 (s_p0 19 j) 2) = true := by decide
theorem fin_i {M N : mm_M} {gp : Nat} {f : Nat → Int32} {x : Int} {S : List Nat} (hq : QG gp) (hb : INV0 M) (h : CTS M gp f x) (hf : FX S M N) (hS : S.all (fun i => !ilK i) = true) : (PLE M N gp ∧ rwX N gp 12 = rwX M gp 12) ∧ b01 (APX N gp) = 1 ∧ RG0 M N := by
  have B := bpx_i hb gp (qg_c hq)
  have p : PLE M N gp := by
    rcases hq with rfl | rfl
    · exact ⟨hf.cell (k_n hS (by decide)), hf.cell (k_n hS (by decide)), hf.cell (k_n hS (by decide)), hf.cell (k_n hS (by decide)), hf.cell (k_n hS (by decide))⟩
    · exact ⟨hf.cell (k_n hS (by decide)), hf.cell (k_n hS (by decide)), hf.cell (k_n hS (by decide)), hf.cell (k_n hS (by decide)), hf.cell (k_n hS (by decide))⟩
  refine ⟨⟨p, rx_f p ⟨hf.cell (k_n hS (by decide)), hf.cell (k_n hS (by decide)), hf.cell (k_n hS (by decide))⟩⟩, apx_o p (hf.cell (k_n hS (by decide))) (hf.cell (k_n hS (by decide))) (hf.cell (k_n hS (by decide))) B.1 B.2.1 (b01_i h.1.2), b01_e (rg_0 hf (k_n hS (by decide)) (fun j hj => ?_))⟩
  have r := rng_i j hj
  exact decide_eq_true ⟨k_n hS r.1, k_n hS r.2.1, k_n hS r.2.2⟩
theorem op_im {M N : mm_M} {gp : Nat} {f : Nat → Int32} {x y a r : Int} (hq : QG gp) (hb : INV0 M) (hB : BPX N) (h : CTS M gp f x) (zw : zwB f ∧ zwB (imR f 0) ∧ zwB (imR f 1)) (z0 : (PLE M N gp ∧ rwX N gp 12 = rwX M gp 12) ∧ b01 (APX N gp) = 1 ∧ RG0 M N) (hp : a = 0 ∧ r = 0 ∧ b01 (PCP N M 61 gp) = 1 ∧ b01 (skX N 66 = skX M 12) = 1 ∧ b01 (SMC N M [69, 70, 71, 72, 73, 74, 75, 76, 77]) = 1 ∨ a = 1 ∧ r = 0 ∧ b01 (PCP N M 70 gp) = 1 ∧ b01 (skX N 75 = skX M 12) = 1 ∧ b01 (SMC N M [60, 61, 62, 63, 64, 65, 66, 67, 68]) = 1 ∨ r < 0 ∧ b01 (SMC N M [60, 61, 62, 63, 64, 65, 66, 67, 68]) = 1 ∧ b01 (SMC N M [69, 70, 71, 72, 73, 74, 75, 76, 77]) = 1) (hx : x ≤ y) : (r = 0 → CTS N gp (imS f a) y) ∧ (r < 0 → CTS N gp f y) := by
  have cp := qg_c hq
  have B := bpx_i hb
  obtain ⟨⟨p, v⟩, ap, rg⟩ := z0
  rcases hp with ⟨e, r0, h1, h2, h3⟩ | ⟨e, r0, h1, h2, h3⟩ | ⟨r0, h1, h2⟩
  · subst e
    exact ⟨fun _ => cts_le hB cp (cts_i0 B cp h zw.1 zw.2.2 p v ap rg h1 h2 (b01_e h3)) hx, fun z => by omega⟩
  · subst e
    exact ⟨fun _ => cts_le hB cp (cts_i1 B cp h zw.1 zw.2.1 p v ap rg h1 h2 (b01_e h3)) hx, fun z => by omega⟩
  · exact ⟨fun z => by omega, fun _ => cts_k B cp h p v ap (b01_e h1) (b01_e h2) rg hx⟩
theorem op_fm {M N : mm_M} {gp : Nat} {f g : Nat → Int32} {y a b : Int} {S : List Nat} (hq : QG gp) (hb : INV0 M) (hf : FR S M N) (hS : S.all (fun i => !alK i) = true) (h0 : a = 0 → CTS M gp g y) (h1 : a < 0 → CTS M gp f y) (hp : b01 (N.1 99 = g) = 1 ∧ b = 0 ∨ b01 (N.1 99 = f) = 1 ∧ b < 0) (e : a = b) : CTS N gp (N.1 99) y := by
  rcases hp with ⟨p, q⟩ | ⟨p, q⟩
  · exact fin_m hq hb (h0 (by omega)) hf hS (b01_e p)
  · exact fin_m hq hb (h1 (by omega)) hf hS (b01_e p)
def rlK (i : Nat) : Bool := (Nat.ble 60 i && Nat.ble i 77) || (Nat.ble 19 i && Nat.ble i 49)
theorem im0_r : ∀ i ∈ IM0, rlK i = true := by decide
theorem im1_r : ∀ i ∈ IM1, rlK i = true := by decide
theorem rng_r : ∀ j, j < 10 → rlK (s_p0 19 j) = true ∧ rlK (s_p0 (s_p0 19 j) 1) = true ∧ rlK (s_p0 (s_p0 19 j) 2) = true := by decide
theorem kp_r {S : List Nat} {M N : mm_M} (hf : FX S M N) (hS : S.all (fun i => !rlK i) = true) : (SMC N M IM0 ∧ SMC N M IM1) ∧ ∀ j, j < 10 → skX N (s_p0 19 j) = skX M (s_p0 19 j) := by
  refine ⟨⟨fun i hi => hf.cell (k_n hS (im0_r i hi)), fun i hi => hf.cell (k_n hS (im1_r i hi))⟩, fun j hj => ?_⟩
  have r := rng_r j hj
  exact kp_f hf (decide_eq_true ⟨k_n hS r.1, k_n hS r.2.1, k_n hS r.2.2⟩)
theorem op_rn {M N : mm_M} {gp : Nat} {f : Nat → Int32} {x y : Int} {S : List Nat} (hq : QG gp) (hb : INV0 M) (h : CTS M gp f x) (hf : FX S M N) (hS : S.all (fun i => !rlK i) = true) (hc : b01 (SMC N M [gp, gp + 1, gp + 2, gp + 3, gp + 4, 12, 13, 14, 18, 81, 82, 83, 84]) = 1) (hx : x ≤ y) : CTS N gp f y := by
  have hc := b01_e hc
  have k := kp_r hf hS
  have B := bpx_i hb gp (qg_c hq)
  have p : PLE M N gp := by
    rcases hq with rfl | rfl
    · exact ⟨hc _ (by decide), hc _ (by decide), hc _ (by decide), hc _ (by decide), hc _ (by decide)⟩
    · exact ⟨hc _ (by decide), hc _ (by decide), hc _ (by decide), hc _ (by decide), hc _ (by decide)⟩
  have m : ∀ i, i ∈ [12, 13, 14, 18, 81, 82, 83, 84] → N.1 i = M.1 i := fun i hi => hc i (List.mem_cons_of_mem _ (List.mem_cons_of_mem _ (List.mem_cons_of_mem _ (List.mem_cons_of_mem _ (List.mem_cons_of_mem _ hi)))))
  exact cts_k (bpx_i hb) (qg_c hq) h p (rx_f p ⟨m _ (by decide), m _ (by decide), m _ (by decide)⟩) (apx_o p (m _ (by decide)) (m _ (by decide)) (m _ (by decide)) B.1 B.2.1 (b01_i h.1.2)) k.1.1 k.1.2 ⟨m _ (by decide), k.2⟩ hx
theorem op_re {M N : mm_M} {gp : Nat} {f : Nat → Int32} {x y a r : Int} {S : List Nat} (hq : QG gp) (hb : INV0 M) (hB : BPX N) (h : CTS M gp f x) (zw : zwB f ∧ zwB (imR f 0) ∧ zwB (imR f 1)) (hf : FX S M N) (hS : S.all (fun i => !rlK i) = true) (b18 : 0 ≤ (N.1 18 1).toInt ∧ (N.1 18 1).toInt ≤ 9) (hp : a = 0 ∧ r = 0 ∧ ¬ (M.1 60 0).toInt = 0 ∧ b01 (PCP N M gp 61) = 1 ∧ b01 (skX N 12 = skX M 66) = 1 ∧ (N.1 18 2).toInt = 0 ∧ b01 (FIL N 83 0 8) = 1 ∨ a = 1 ∧ r = 0 ∧ ¬ (M.1 69 0).toInt = 0 ∧ b01 (PCP N M gp 70) = 1 ∧ b01 (skX N 12 = skX M 75) = 1 ∧ (N.1 18 2).toInt = 0 ∧ b01 (FIL N 83 0 8) = 1 ∨ r < 0 ∧ b01 (SMC N M [gp, gp + 1, gp + 2, gp + 3, gp + 4, 12, 13, 14, 18, 81, 82, 83, 84]) = 1) (hx : x ≤ y) : (r = 0 → CTS N gp (reS f a) y) ∧ (r < 0 → CTS N gp f y) := by
  have cp := qg_c hq
  have B := bpx_i hb
  have k := kp_r hf hS
  have im : IMG N f x := img_m B h.2.2 k.1.1 k.1.2 (fun _ _ => rfl) (Int.le_refl _)
  rcases hp with ⟨e, r0, n0, h1, h2, h3, h4⟩ | ⟨e, r0, n0, h1, h2, h3, h4⟩ | ⟨r0, h1⟩
  · subst e
    exact ⟨fun _ => cts_le hB cp (cts_r B (by decide) (h.2.2.1.resolve_left n0) rfl zw.2.1 h1 h2 h3 (by omega) h4 im) hx, fun z => by omega⟩
  · subst e
    exact ⟨fun _ => cts_le hB cp (cts_r B (by decide) (h.2.2.2.resolve_left n0) rfl zw.2.2 h1 h2 h3 (by omega) h4 im) hx, fun z => by omega⟩
  · exact ⟨fun z => by omega, fun _ => op_rn hq hb h hf hS h1 hx⟩
/-! a shop -/
theorem sme_c {M N : mm_M} {S : List Nat} (h : b01 (SME N M S) = 1) {i : Nat} (hi : i ∉ S) : N.1 i = M.1 i := b01_e h i hi
theorem op_sh {M M1 M2 : mm_M} {G SP : Nat} {n x y : Int} {S : List Nat} (hG : G = 2 ∧ SP = 7 ∨ G = 7 ∧ SP = 2) (hJ0 : INV0 M) (hJ1 : INV0 M1) (h : CTS M G (M.1 99) x) (h4 : 0 ≤ (M2.1 99 4).toInt ∧ 0 ≤ (M2.1 99 5).toInt) (t1 : (M1.1 98 5).toInt = (M.1 0 1).toInt) (t4 : T4 M) (e99 : M1.1 99 = M.1 99) (e101 : M1.1 101 = M.1 101) (hF2 : FR S M1 M2) (hS : S.all (fun i => !alK i) = true) (hj : b01 (SMJX M1 M) = 1) (u1 : (M.1 0 1).toInt < n ∨ (rdP (mskT (M.1 1) n) n).1 = (rdP (mskT (M1.1 101) n) n).1)
    (hc : ((n < 0 ∨ (M.1 0 1).toInt < n) ∨ 0 ≤ n ∧ n ≤ (M.1 0 1).toInt ∧ ¬ (rdP (mskT (M.1 1) n) n).1 = 0) ∧ b01 (SME M1 M [0, 78, 79, 80, SP, SP + 1, SP + 2, SP + 3, SP + 4, 15, 16, 17]) = 1 ∧ M1.2.2 0 4 = G ∧ M1.2.2 0 5 = SP ∨ (0 ≤ n ∧ n ≤ (M.1 0 1).toInt ∧ (rdP (mskT (M.1 1) n) n).1 = 0) ∧ b01 (SME M1 M [0, 78, 79, 80, SP, SP + 1, SP + 2, SP + 3, SP + 4, 15, 16, 17, 12, 13, 14, 18, 83]) = 1 ∧ M1.2.2 0 4 = SP ∧ M1.2.2 0 5 = G ∧ b01 (LAW M1 SP) = 1 ∧ b01 (MKX M1 SP) = 1 ∧ b01 (PRR (rwX M1 SP 12)) = 1 ∧ b01 (TLD (mskT (M.1 1) n) n (rwX M1 SP 12)) = 1 ∧ (M1.1 18 2).toInt = 0 ∧ b01 (FIL M1 83 0 8) = 1)
    (hr1 : (n < 0 ∨ (M1.1 98 5).toInt < n) ∨ ¬ (rdP (mskT (M1.1 101) n) n).1 = 0 ∨ b01 (RWS (mskT (M1.1 101) n) n M2) = 1 ∧ b01 (RWH M1 M2) = 1) (hr2 : (0 ≤ n ∧ n ≤ (M1.1 98 5).toInt ∧ (rdP (mskT (M1.1 101) n) n).1 = 0) ∨ b01 (S99 M1 M2) = 1) (hx : 0 ≤ x ∧ x ≤ y) : GPQ M2 ∧ CTS M2 (M2.2.2 0 4) (M2.1 99) y ∧ b01 (TRS M M1) = 1 := by
  have qG : QG G := by rcases hG with z | z; exact Or.inl z.1; exact Or.inr z.1
  have qS : QG SP := by rcases hG with z | z; exact Or.inr z.2; exact Or.inl z.2
  have B := bpx_i hJ0
  have b18 := hJ1.rd (i := 18) (c := 5) (k := 1) rfl (show s_b 5 1 = (0, 9) from rfl)
  unfold GPQ
  rw [hF2.2.1]
  rcases hc with ⟨c, s, p4, p5⟩ | ⟨c, s, p4, p5, l, mk, pr, tl, r0, fi⟩
  · have g : M2.1 99 = M.1 99 := by
      rw [← e99]
      exact b01_e (hr2.resolve_left (fun z => by omega))
    have D : (∀ i ∈ IM0, M1.1 i = M.1 i) ∧ (∀ i ∈ IM1, M1.1 i = M.1 i) ∧ (∀ j, j < 10 → SKE M M1 (s_p0 19 j)) ∧ PLE M M1 G ∧ SKE M M1 12 ∧ M1.1 18 = M.1 18 ∧ (M1.1 82 = M.1 82 ∧ M1.1 83 = M.1 83 ∧ M1.1 84 = M.1 84) ∧ ∀ q, q < 4 → s_p0 50 q ∉ [0, 78, 79, 80, SP, SP + 1, SP + 2, SP + 3, SP + 4, 15, 16, 17] := by
      rcases hG with ⟨rfl, rfl⟩ | ⟨rfl, rfl⟩
      · refine ⟨fun i hi => sme_c s ?_, fun i hi => sme_c s ?_, fun j hj => ske_s s ?_, ple_s s (by decide), ske_s s (by decide), sme_c s (by decide), ⟨sme_c s (by decide), sme_c s (by decide), sme_c s (by decide)⟩, by decide⟩
        · revert i hi; decide
        · revert i hi; decide
        · revert j hj; decide
      · refine ⟨fun i hi => sme_c s ?_, fun i hi => sme_c s ?_, fun j hj => ske_s s ?_, ple_s s (by decide), ske_s s (by decide), sme_c s (by decide), ⟨sme_c s (by decide), sme_c s (by decide), sme_c s (by decide)⟩, by decide⟩
        · revert i hi; decide
        · revert i hi; decide
        · revert j hj; decide
    obtain ⟨d0, d1, dr, dp, ds, d18, d8, dt⟩ := D
    have b := B G (qg_c qG)
    have c1 : CTS M1 G (M.1 99) y := cts_k B (qg_c qG) h dp (rx_f dp ds) (apx_o dp d8.1 d8.2.1 d8.2.2 b.1 b.2.1 (b01_i h.1.2)) d0 d1 ⟨d18, fun j hj => sk_f (dr j hj)⟩ hx.2
    refine ⟨by rw [p4, p5]; rcases hG with ⟨rfl, rfl⟩ | ⟨rfl, rfl⟩; exact Or.inl ⟨rfl, rfl⟩; exact Or.inr ⟨rfl, rfl⟩, by rw [p4]; exact fin_m qG hJ1 c1 hF2 hS g, trs_e s hj dt⟩
  · have D : (∀ i ∈ IM0, M1.1 i = M.1 i) ∧ (∀ i ∈ IM1, M1.1 i = M.1 i) ∧ ∀ q, q < 4 → s_p0 50 q ∉ [0, 78, 79, 80, SP, SP + 1, SP + 2, SP + 3, SP + 4, 15, 16, 17, 12, 13, 14, 18, 83] := by
      rcases hG with ⟨rfl, rfl⟩ | ⟨rfl, rfl⟩
      · refine ⟨fun i hi => sme_c s ?_, fun i hi => sme_c s ?_, by decide⟩
        · revert i hi; decide
        · revert i hi; decide
      · refine ⟨fun i hi => sme_c s ?_, fun i hi => sme_c s ?_, by decide⟩
        · revert i hi; decide
        · revert i hi; decide
    obtain ⟨d0, d1, dt⟩ := D
    have w := (hr1.resolve_left (fun z => by omega)).resolve_left (fun z => z (by omega))
    have rw_ := b01_e w.1
    have rh := b01_e w.2
    have em : mskT (M1.1 101) n = mskT (M.1 1) n := by rw [e101, t4_m t4 c.2.1]
    have c1 : CTS M1 SP (M2.1 99) y := cts_s tl (fun j hj => by rw [← em]; exact rw_ j hj) h4 l mk pr r0 (by omega) fi (img_m B h.2.2 d0 d1 (fun _ _ => rfl) hx.2) (fun j hj => by rw [rh j hj, e99]) (by omega)
    refine ⟨by rw [p4, p5]; rcases hG with ⟨rfl, rfl⟩ | ⟨rfl, rfl⟩; exact Or.inr ⟨rfl, rfl⟩; exact Or.inl ⟨rfl, rfl⟩, by rw [p4]; exact fin_m qS hJ1 c1 hF2 hS rfl, trs_e s hj dt⟩
theorem wr_h {A B C D D' E F G T X1 X2 X3 X4 : Prop} (h : A ∧ X1 ∧ B ∨ C ∧ D ∧ X2 ∧ B ∨ C ∧ D' ∧ E ∧ X3 ∧ B ∨ C ∧ D' ∧ F ∧ G ∧ X4 ∧ T) : A ∧ B ∨ C ∧ D ∧ B ∨ C ∧ D' ∧ E ∧ B ∨ C ∧ D' ∧ F ∧ G ∧ T := by
  rcases h with ⟨a, _, b⟩ | ⟨c, d, _, b⟩ | ⟨c, d, e, _, b⟩ | ⟨c, d, f, g, _, t⟩
  · exact Or.inl ⟨a, b⟩
  · exact Or.inr (Or.inl ⟨c, d, b⟩)
  · exact Or.inr (Or.inr (Or.inl ⟨c, d, e, b⟩))
  · exact Or.inr (Or.inr (Or.inr ⟨c, d, f, g, t⟩))
theorem im_h {a r : Int} {X A B C Y D E F Q : Prop} (h : a = 0 ∧ r = 0 ∧ X ∧ A ∧ B ∧ C ∨ a = 1 ∧ r = 0 ∧ Y ∧ D ∧ E ∧ F ∨ Q ∧ r = -2 ∧ F ∧ C) : a = 0 ∧ r = 0 ∧ A ∧ B ∧ C ∨ a = 1 ∧ r = 0 ∧ D ∧ E ∧ F ∨ r < 0 ∧ F ∧ C := by
  rcases h with ⟨a, b, _, c⟩ | ⟨a, b, _, c⟩ | ⟨_, b, c⟩
  · exact Or.inl ⟨a, b, c⟩
  · exact Or.inr (Or.inl ⟨a, b, c⟩)
  · exact Or.inr (Or.inr ⟨by omega, c⟩)
theorem re_h {a r : Int} {X Y Q1 Q2 S : Prop} (h : a = 0 ∧ r = 0 ∧ X ∨ a = 1 ∧ r = 0 ∧ Y ∨ Q1 ∧ r = -5 ∧ S ∨ Q2 ∧ r = -2 ∧ S) : a = 0 ∧ r = 0 ∧ X ∨ a = 1 ∧ r = 0 ∧ Y ∨ r < 0 ∧ S := by
  rcases h with h | h | ⟨_, b, c⟩ | ⟨_, b, c⟩
  · exact Or.inl h
  · exact Or.inr (Or.inl h)
  · exact Or.inr (Or.inr ⟨by omega, c⟩)
  · exact Or.inr (Or.inr ⟨by omega, c⟩)


