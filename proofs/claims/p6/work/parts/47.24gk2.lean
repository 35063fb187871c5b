/-! further rows, the class's side -/
theorem cmb_b6 : ∀ B : Nat, B ≤ 6 → ∀ b : Nat, b < B → ∀ k : Nat, k < B → (k = b ∧ ¬ andI (shrI (andI (pw2 (B : Int) - 1) (-1 - pw2 (b : Int))) (k : Int)) 1 = 1) ∨ (¬ k = b ∧ andI (shrI (andI (pw2 (B : Int) - 1) (-1 - pw2 (b : Int))) (k : Int)) 1 = 1) := by decide +kernel
theorem cmb_but {c B b : Int} (hB : 0 ≤ B ∧ B ≤ 6) (hb : 0 ≤ b ∧ b < B) (hc : c = andI (pw2 B - 1) (-1 - pw2 b)) : b01 (CMB c b B) = 1 := b01_i (fun k h0 h1 => by
  have z := cmb_b6 B.toNat (by omega) b.toNat (by omega) k.toNat (by omega)
  rw [show ((B.toNat : Nat) : Int) = B by omega, show ((b.toNat : Nat) : Int) = b by omega, show ((k.toNat : Nat) : Int) = k by omega, ← hc] at z
  rcases z with ⟨z, y⟩ | ⟨z, y⟩
  · exact Or.inl ⟨by omega, y⟩
  · exact Or.inr ⟨by omega, y⟩)
theorem hdS_e {f : Nat → Int32} {k x : Int} (h : x = orI (f 28).toInt (pw2 k)) : seH f (sI x) = hdS f k := by
  rw [h]; rfl
/-! rows alike -/
theorem eq_nd {f g : Nat → Int32} (h : EQR g f) : ndA g = ndA f := by
  have q : ∀ n : Nat, ndF g n = ndF f n := fun n => by
    induction n with
    | zero => rfl
    | succ n ih => rw [ndF, ndF, ih, eq_en h]
  unfold ndA
  rw [eq_en h, q, (eq_k h).2.2.2.2.2.2.2]
theorem eq_hd {f g : Nat → Int32} (h : EQR g f) (k : Int) : EQR (hdS g k) (hdS f k) := eqr_w h (by rw [(eq_k h).2.2.1]) (by decide)
theorem eq_gu {f g : Nat → Int32} (h : EQR g f) : guA g = guA f := by
  have q : ∀ n : Nat, guF g n = guF f n := fun n => by
    induction n with
    | zero => rfl
    | succ n ih => rw [guF, guF, ih, eq_en (eq_hd h (n : Int)), (eq_k h).2.2.1]
  unfold guA
  rw [eq_en h, q, (eq_k h).1]
/-! the sets that can come, met -/
theorem rcn_x (f : Nat → Int32) : ∀ (n : Nat) (s : Int), RCn f n s ↔ RXn f n s
  | 0, s => Iff.rfl
  | n + 1, s => by
    rw [RCn, RXn]
    exact ⟨fun ⟨s0, b, h, r⟩ => ⟨s0, b, (rcn_x f n s0).mp h, r⟩, fun ⟨s0, b, h, r⟩ => ⟨s0, b, (rcn_x f n s0).mpr h, r⟩⟩
theorem lkp_n {M : mm_M} {p : Nat} {f : Nat → Int32} (h : b01 (LKP M p f) = 1) : RNS f := ⟨(lkp_e h).2.1.1, (lkp_e h).2.1.2.1, (lkp_e h).2.1.2.2.1⟩
theorem lkp_rx {M : mm_M} {p : Nat} {f : Nat → Int32} (h : b01 (LKP M p f) = 1) {s : Int} (q : 0 ≤ s ∧ s ≤ 255) : ((M.1 90 s.toNat).toInt = 1 ∧ rxI f s = 1) ∨ (¬ (M.1 90 s.toNat).toInt = 1 ∧ rxI f s = 0) := by
  have r := lkp_n h
  obtain ⟨l0, l1, l2⟩ := (b01_e h).2
  have a : ∀ (n : Nat) (s : Int), RXn f n s → (M.1 90 s.toNat).toInt = 1 := fun n => by
    induction n with
    | zero => intro s h; rw [show s = (f 27).toInt from h]; exact l0
    | succ n ih =>
      intro s h
      obtain ⟨x, b, hx, b0, b1, hk, e⟩ := h
      have w := rx_r r ⟨n, hx⟩
      rw [e]
      exact (l2 x w.1.1 (by omega) w.1.2 (ih x hx) b b0 b1).2.resolve_left hk
  by_cases c : (M.1 90 s.toNat).toInt = 1
  · obtain ⟨n, z⟩ := l1 s q.1 q.2 c
    exact Or.inl ⟨c, rxI_1 ⟨n, (rcn_x f n s).mp z⟩⟩
  · exact Or.inr ⟨c, rxI_0 (fun ⟨n, z⟩ => c (a n s z))⟩
theorem rxI_27 (f : Nat → Int32) : rxI f (f 27).toInt = 1 := rxI_1 ⟨0, rfl⟩
theorem or_self {a : Int} (h : 0 ≤ a ∧ a ≤ 255) : orI a a = a := by
  unfold orI
  rw [Int32.or_self, sI_t (by omega)]
theorem or_0l {a : Int} (h : 0 ≤ a ∧ a ≤ 255) : orI 0 a = a := by
  unfold orI
  rw [show sI 0 = (0 : Int32) by rfl, Int32.zero_or, sI_t (by omega)]
theorem ev_s {f : Nat → Int32} (r : RNS f) {l x x' y : Int} (h : (x = (f 27).toInt ∧ l = (f 27).toInt) ∨ ((f 27).toInt < x ∧ l = scF f x.toNat)) (q : (f 27).toInt ≤ x ∧ x' = x + 1) (hy : (rxI f x = 1 ∧ y = x) ∨ (rxI f x = 0 ∧ y = 0)) : (f 27).toInt < x' ∧ orI l y = scF f x'.toNat := by
  have z := r.2.1
  have ev := evF_b r.1
  refine ⟨by omega, ?_⟩
  have s := sc_s f (x := x) (x' := x') (a := scF f x.toNat) (by omega) q.2 rfl
  rcases h with ⟨a, b⟩ | ⟨a, b⟩
  · have x1 := rxI_27 f
    rw [← a] at x1
    have s2 : scF f x'.toNat = orI (scF f x.toNat) x := by
      rcases s with s | s
      · exact s.2
      · omega
    have lo := sc_lo r x.toNat (by omega)
    rw [s2, lo, show l = x by omega, show y = x by omega, or_self (by omega), or_0l (by omega)]
  · rw [b]
    rcases hy with ⟨c, d⟩ | ⟨c, d⟩
    · rw [d]; rcases s with s | s
      · exact s.2.symm
      · omega
    · rw [d]; rcases s with s | s
      · omega
      · exact s.2.symm
/-! rows alike -/
theorem rxn_m {f g : Nat → Int32} (h : EQR g f) : ∀ (n : Nat) (s : Int), RXn g n s → RXn f n s
  | 0, s, z => by
    have z : s = (g 27).toInt := z
    show s = (f 27).toInt
    rw [z, (eq_k h).2.1]
  | n + 1, s, z => by
    obtain ⟨s0, b, z0, b0, b1, hk, e⟩ := z
    rw [(eq_k h).2.2.2.2.2.2.2] at b1
    rw [eq_bo h ⟨b0, b1⟩] at hk e
    exact ⟨s0, b, rxn_m h n s0 z0, b0, b1, hk, e⟩
theorem rxn_n {f g : Nat → Int32} (h : EQR g f) : ∀ (n : Nat) (s : Int), RXn f n s → RXn g n s
  | 0, s, z => by
    have z : s = (f 27).toInt := z
    show s = (g 27).toInt
    rw [z, (eq_k h).2.1]
  | n + 1, s, z => by
    obtain ⟨s0, b, z0, b0, b1, hk, e⟩ := z
    rw [← eq_bo h ⟨b0, b1⟩] at hk e
    exact ⟨s0, b, rxn_n h n s0 z0, b0, by rw [(eq_k h).2.2.2.2.2.2.2]; exact b1, hk, e⟩
theorem eq_rx {f g : Nat → Int32} (h : EQR g f) (s : Int) : rxI g s = rxI f s := by
  rcases rxI_s f s with ⟨⟨n, a⟩, b⟩ | ⟨a, b⟩
  · rw [b]; exact rxI_1 ⟨n, rxn_n h n s a⟩
  · rw [b]; exact rxI_0 (fun ⟨n, z⟩ => a ⟨n, rxn_m h n s z⟩)
theorem eq_sv {f g : Nat → Int32} (h : EQR g f) : svA g = svA f := by
  have q : ∀ n : Nat, scF g n = scF f n := fun n => by
    induction n with
    | zero => rfl
    | succ n ih => rw [scF, scF, ih, eq_rx h]
  exact q 256
theorem eq_sn {f g : Nat → Int32} (h : EQR g f) : snF g = snF f := by unfold snF; rw [eq_ev h, (eq_k h).2.2.1]
theorem eq_la {f g : Nat → Int32} (h : EQR g f) : laA g = laA f := by
  have q : ∀ n : Nat, laF g n = laF f n := fun n => by
    induction n with
    | zero => rfl
    | succ n ih => rw [laF, laF, ih, eq_rx h, eq_sn h]
  unfold laA
  rw [q, eq_ev h]
