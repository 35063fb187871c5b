/-! further rows: whom the ending needs, what guards it -/
def ndF (f : Nat → Int32) : Nat → Int
  | 0 => 0
  | n + 1 => orI (ndF f n) (if enF f (n : Int) = -1 then pw2 (n : Int) else 0)
theorem nd_s (f : Nat → Int32) {x x' a : Int} (h : 0 ≤ x) (hx : x' = x + 1) (ha : a = ndF f x.toNat) : (enF f x = -1 ∧ ndF f x'.toNat = orI a (pw2 x)) ∨ (¬ enF f x = -1 ∧ ndF f x'.toNat = orI a 0) := by
  subst hx
  subst ha
  rw [show (x + 1).toNat = x.toNat + 1 by omega, ndF, show ((x.toNat : Nat) : Int) = x by omega]
  split
  · exact Or.inl ⟨by assumption, rfl⟩
  · exact Or.inr ⟨by assumption, rfl⟩
def ndA (f : Nat → Int32) : Int := if enF f (-1) = -1 then 0 else ndF f (f 1).toInt.toNat
theorem ndA_s (f : Nat → Int32) : (enF f (-1) = -1 ∧ ndA f = 0) ∨ (¬ enF f (-1) = -1 ∧ ndA f = ndF f (f 1).toInt.toNat) := by
  unfold ndA; split
  · exact Or.inl ⟨by assumption, rfl⟩
  · exact Or.inr ⟨by assumption, rfl⟩
/-- what was hidden, and a kind more -/
def hdS (f : Nat → Int32) (k : Int) : Nat → Int32 := uR f 28 (orI (f 28).toInt (pw2 k))
def guF (f : Nat → Int32) : Nat → Int
  | 0 => 0
  | n + 1 => if iiF (f 28).toInt (n : Int) = 1 then guF f n else orI (guF f n) (if enF (hdS f (n : Int)) (-1) = -1 then pw2 (n : Int) else 0)
theorem gu_s (f : Nat → Int32) {x x' a : Int} (h : 0 ≤ x) (hx : x' = x + 1) (ha : a = guF f x.toNat) : (iiF (f 28).toInt x = 1 ∧ guF f x'.toNat = a) ∨ (¬ iiF (f 28).toInt x = 1 ∧ ((enF (hdS f x) (-1) = -1 ∧ guF f x'.toNat = orI a (pw2 x)) ∨ (¬ enF (hdS f x) (-1) = -1 ∧ guF f x'.toNat = orI a 0))) := by
  subst hx
  subst ha
  rw [show (x + 1).toNat = x.toNat + 1 by omega, guF, show ((x.toNat : Nat) : Int) = x by omega]
  by_cases c : iiF (f 28).toInt x = 1
  · rw [if_pos c]; exact Or.inl ⟨c, rfl⟩
  · rw [if_neg c]
    split
    · exact Or.inr ⟨c, Or.inl ⟨by assumption, rfl⟩⟩
    · exact Or.inr ⟨c, Or.inr ⟨by assumption, rfl⟩⟩
def guA (f : Nat → Int32) : Int := if enF f (-1) = -1 then 0 else guF f (f 26).toInt.toNat
theorem guA_s (f : Nat → Int32) : (enF f (-1) = -1 ∧ guA f = 0) ∨ (¬ enF f (-1) = -1 ∧ guA f = guF f (f 26).toInt.toNat) := by
  unfold guA; split
  · exact Or.inl ⟨by assumption, rfl⟩
  · exact Or.inr ⟨by assumption, rfl⟩
theorem hd_w {M N : mm_M} {f : Nat → Int32} {h k : Int} (e : N = wI M 99 28 (sI (orI h (pw2 k)))) (hj : b01 (SMJ 28 f (M.1 99)) = 1) (hh : h = (f 28).toInt) : N.1 99 = hdS f k := by
  funext j
  unfold hdS uR
  by_cases c : j = 28
  · rw [if_pos c, c, wI_at e, hh]
  · rw [if_neg c, wI_ne e c]; exact b01_e hj j c
/-! further rows: the sets that can come -/
def RXn (f : Nat → Int32) : Nat → Int → Prop
  | 0, s => s = (f 27).toInt
  | n + 1, s => ∃ s0 b : Int, RXn f n s0 ∧ 0 ≤ b ∧ b < (f 1).toInt ∧ ¬ boF f b s0 = -1 ∧ s = orI s0 (pw2 (boF f b s0))
def RX (f : Nat → Int32) (s : Int) : Prop := ∃ n, RXn f n s
theorem rx_t {f : Nat → Int32} {s b : Int} (h : RX f s) (hb : 0 ≤ b ∧ b < (f 1).toInt) (hk : ¬ boF f b s = -1) : RX f (orI s (pw2 (boF f b s))) := by
  obtain ⟨n, h⟩ := h
  exact ⟨n + 1, s, b, h, hb.1, hb.2, hk, rfl⟩
theorem or_geq {s k : Int} (hs : 0 ≤ s ∧ s ≤ 255) (hk : 0 ≤ k ∧ k < 8) : s ≤ orI s (pw2 k) := by
  have w := pw2_p k
  have m : pw2 k ≤ 256 := pw2_m (b := 8) (by omega)
  have t := sb_orl (x := sI s) (y := sI (pw2 k)) (by rw [sI_t (by omega)]; omega) (by rw [sI_t (by omega)]; omega)
  rw [sI_t (by omega)] at t
  exact t.1
/-- ranges of a row -/
def RNS (f : Nat → Int32) : Prop := (0 ≤ (f 26).toInt ∧ (f 26).toInt ≤ 8) ∧ (0 ≤ (f 27).toInt ∧ (f 27).toInt ≤ evF f) ∧ 0 ≤ (f 1).toInt ∧ (f 1).toInt ≤ 6
theorem rxn_b {f : Nat → Int32} (r : RNS f) : ∀ (n : Nat) (s : Int), RXn f n s → (f 27).toInt ≤ s ∧ s ≤ evF f
  | 0, s, h => by
    have h : s = (f 27).toInt := h
    have := r.2.1
    omega
  | n + 1, s, h => by
    obtain ⟨s0, b, h0, b0, b1, hk, e⟩ := h
    have ih := rxn_b r n s0 h0
    have z := r.2.1
    have v := bo_ev (f := f) (b := b) (s := s0) r.1 (by omega)
    have ev := evF_b r.1
    have k8 := r.1
    have g := or_geq (s := s0) (k := boF f b s0) (by omega) (by omega)
    omega
theorem rx_r {f : Nat → Int32} (r : RNS f) {s : Int} (h : RX f s) : ((f 27).toInt ≤ s ∧ s ≤ evF f) ∧ 0 ≤ s ∧ s ≤ 255 := by
  obtain ⟨n, h⟩ := h
  have a := rxn_b r n s h
  have ev := evF_b r.1
  have z := r.2.1
  omega
noncomputable def rxI (f : Nat → Int32) (s : Int) : Int := @ite Int (RX f s) (Classical.propDecidable _) 1 0
theorem rxI_1 {f : Nat → Int32} {s : Int} (h : RX f s) : rxI f s = 1 := if_pos h
theorem rxI_0 {f : Nat → Int32} {s : Int} (h : ¬ RX f s) : rxI f s = 0 := if_neg h
theorem rxI_s (f : Nat → Int32) (s : Int) : (RX f s ∧ rxI f s = 1) ∨ (¬ RX f s ∧ rxI f s = 0) := by
  by_cases h : RX f s
  · exact Or.inl ⟨h, rxI_1 h⟩
  · exact Or.inr ⟨h, rxI_0 h⟩
theorem rxI_o (f : Nat → Int32) (s : Int) : rxI f s = 1 ∨ rxI f s = 0 := by
  rcases rxI_s f s with h | h
  · exact Or.inl h.2
  · exact Or.inr h.2
/-- all of them together -/
noncomputable def scF (f : Nat → Int32) : Nat → Int
  | 0 => 0
  | n + 1 => orI (scF f n) (if rxI f (n : Int) = 1 then (n : Int) else 0)
theorem sc_s (f : Nat → Int32) {x x' a : Int} (h : 0 ≤ x) (hx : x' = x + 1) (ha : a = scF f x.toNat) : (rxI f x = 1 ∧ scF f x'.toNat = orI a x) ∨ (rxI f x = 0 ∧ scF f x'.toNat = orI a 0) := by
  subst hx
  subst ha
  rw [show (x + 1).toNat = x.toNat + 1 by omega, scF, show ((x.toNat : Nat) : Int) = x by omega]
  rcases rxI_o f x with q | q
  · rw [if_pos q]; exact Or.inl ⟨q, rfl⟩
  · rw [if_neg (by omega)]; exact Or.inr ⟨q, rfl⟩
theorem or_255x {a b : Int} (ha : 0 ≤ a ∧ a ≤ 255) (hb : 0 ≤ b ∧ b ≤ 255) : 0 ≤ orI a b ∧ orI a b ≤ 255 := by
  have h := sb_or (x := sI a) (y := sI b) 8 (by decide) (by rw [sI_t (by omega)]; omega) (by rw [sI_t (by omega)]; omega)
  exact ⟨h.1, by have := h.2; show (sI a ||| sI b).toInt ≤ 255; omega⟩
theorem or_00 : orI 0 0 = 0 := by decide
theorem or_0x {a : Int} (h : 0 ≤ a ∧ a ≤ 255) : orI a 0 = a := by
  unfold orI
  rw [show sI 0 = (0 : Int32) by rfl, Int32.or_zero, sI_t (by omega)]
theorem sc_b (f : Nat → Int32) (r : RNS f) : ∀ n : Nat, 0 ≤ scF f n ∧ scF f n ≤ 255
  | 0 => by rw [scF]; decide
  | n + 1 => by
    have ih := sc_b f r n
    rw [scF]
    by_cases c : rxI f (n : Int) = 1
    · rw [if_pos c]
      rcases rxI_s f (n : Int) with q | q
      · exact or_255x ih (rx_r r q.1).2
      · omega
    · rw [if_neg c]; exact or_255x ih (by decide)
/-- below the least, above the greatest nothing comes -/
theorem sc_lo {f : Nat → Int32} (r : RNS f) : ∀ n : Nat, (n : Int) ≤ (f 27).toInt → scF f n = 0
  | 0, _ => rfl
  | n + 1, h => by
    rw [scF, sc_lo r n (by omega), if_neg ?_]
    · exact or_00
    · intro q
      rcases rxI_s f (n : Int) with z | z
      · have := (rx_r r z.1).1; omega
      · omega
theorem sc_hi {f : Nat → Int32} (r : RNS f) (m : Nat) (hm : evF f + 1 ≤ (m : Int)) : ∀ k : Nat, scF f (m + k) = scF f m
  | 0 => rfl
  | k + 1 => by
    have b := sc_b f r m
    rw [show m + (k + 1) = (m + k) + 1 by omega, scF, sc_hi r m hm k, if_neg ?_]
    · exact or_0x b
    · intro q
      rcases rxI_s f ((m + k : Nat) : Int) with z | z
      · have := (rx_r r z.1).1; omega
      · omega
noncomputable def svA (f : Nat → Int32) : Int := scF f 256
theorem sv_e {f : Nat → Int32} (r : RNS f) {x : Int} (hx : evF f + 1 ≤ x ∧ x ≤ 256) : scF f x.toNat = svA f := by
  have ev := evF_b r.1
  have z := sc_hi r x.toNat (by omega) (256 - x.toNat)
  rw [show x.toNat + (256 - x.toNat) = 256 by omega] at z
  exact z.symm
/-- the kinds left alone -/
noncomputable def laF (f : Nat → Int32) : Nat → Int
  | 0 => 0
  | n + 1 => if rxI f (n : Int) = 1 ∧ bsF (andI (snF f) (-1 - (n : Int))) (8 : Int).toNat = 1 then orI (laF f n) (andI (snF f) (-1 - (n : Int))) else laF f n
theorem la_s (f : Nat → Int32) {x x' a : Int} (h : 0 ≤ x) (hx : x' = x + 1) (ha : a = laF f x.toNat) : ((rxI f x = 1 ∧ bsF (andI (snF f) (-1 - x)) (8 : Int).toNat = 1) ∧ laF f x'.toNat = orI a (andI (snF f) (-1 - x))) ∨ ((rxI f x = 0 ∨ ¬ bsF (andI (snF f) (-1 - x)) (8 : Int).toNat = 1) ∧ laF f x'.toNat = a) := by
  subst hx
  subst ha
  rw [show (x + 1).toNat = x.toNat + 1 by omega, laF, show ((x.toNat : Nat) : Int) = x by omega]
  rcases rxI_o f x with q | q
  · by_cases c : bsF (andI (snF f) (-1 - x)) (8 : Int).toNat = 1
    · rw [if_pos ⟨q, c⟩]; exact Or.inl ⟨⟨q, c⟩, rfl⟩
    · rw [if_neg (fun z => c z.2)]; exact Or.inr ⟨Or.inr c, rfl⟩
  · rw [if_neg (fun z => by omega)]; exact Or.inr ⟨Or.inl q, rfl⟩
noncomputable def laA (f : Nat → Int32) : Int := laF f (evF f + 1).toNat
theorem la_lo {f : Nat → Int32} (r : RNS f) : ∀ n : Nat, (n : Int) ≤ (f 27).toInt → laF f n = 0
  | 0, _ => rfl
  | n + 1, h => by
    rw [laF, la_lo r n (by omega), if_neg ?_]
    intro q
    rcases rxI_s f (n : Int) with z | z
    · have := (rx_r r z.1).1; omega
    · omega
/-! what comes, laid: the reference -/
def C0X (M : mm_M) (f : Nat → Int32) (x : Int) : Prop := ∀ k : Int, 0 ≤ k → k < x → (M.1 109 k.toNat).toInt = if k = (f 27).toInt then 1 else 0
theorem c0_0 (M : mm_M) (f : Nat → Int32) : b01 (C0X M f 0) = 1 := b01_i (fun k h0 h1 => by omega)
theorem c0_s {M N : mm_M} {f : Nat → Int32} {x x' v : Int} (e : N = wI M 109 x.toNat (sI v)) (h : b01 (C0X M f x) = 1) (q : 0 ≤ x ∧ x' = x + 1) (hv : (x = (f 27).toInt ∧ v = 1) ∨ (¬ x = (f 27).toInt ∧ v = 0)) : b01 (C0X N f x') = 1 := b01_i (fun k h0 h1 => by
  by_cases c : k = x
  · rw [c, wI_at e]
    rcases hv with ⟨a, b⟩ | ⟨a, b⟩
    · rw [if_pos a, b]; rfl
    · rw [if_neg a, b]; rfl
  · rw [wI_ne e (show k.toNat ≠ x.toNat by omega)]
    exact b01_e h k h0 (by omega))
def CMX (M : mm_M) (f : Nat → Int32) (t b : Int) : Prop := (M.1 109 (f 27).toInt.toNat).toInt = 1 ∧ (∀ s : Int, 0 ≤ s → s ≤ 255 → (M.1 109 s.toNat).toInt = 1 → RX f s) ∧ ∀ s b' : Int, 0 ≤ s → (s < t ∨ (s = t ∧ b' < b)) → s ≤ evF f → (M.1 109 s.toNat).toInt = 1 → 0 ≤ b' → b' < (f 1).toInt → boF f b' s = -1 ∨ (M.1 109 (orI s (pw2 (boF f b' s))).toNat).toInt = 1
theorem cm_0 {M : mm_M} {f : Nat → Int32} (r : RNS f) (h : b01 (C0X M f 256) = 1) : b01 (CMX M f 0 0) = 1 := b01_i (by
  have h := b01_e h
  have ev := evF_b r.1
  have z := r.2.1
  refine ⟨?_, fun s s0 s1 hs => ?_, fun s b' s0 hs => by omega⟩
  · rw [h (f 27).toInt z.1 (by omega), if_pos rfl]
  · rw [h s s0 (by omega)] at hs
    by_cases c : s = (f 27).toInt
    · exact ⟨0, c⟩
    · rw [if_neg c] at hs; omega)
theorem cm_w {M N : mm_M} {f : Nat → Int32} {t b : Int} (r : RNS f) (e : N = wI M 109 (orI t (pw2 (boF f b t))).toNat (sI 1)) (h : b01 (CMX M f t b) = 1) (h1 : (M.1 109 t.toNat).toInt = 1) (q : 0 ≤ t ∧ t ≤ evF f ∧ 0 ≤ b ∧ b < (f 1).toInt) (hk : ¬ boF f b t = -1) : b01 (CMX N f t (b + 1)) = 1 := b01_i (by
  obtain ⟨h0, h2, h3⟩ := b01_e h
  have ev := evF_b r.1
  have k8 := r.1
  have v := bo_ev (f := f) (b := b) (s := t) r.1 (by omega)
  have g := or_geq (s := t) (k := boF f b t) (by omega) (by omega)
  have up : ∀ k : Nat, (M.1 109 k).toInt = 1 → (N.1 109 k).toInt = 1 := fun k hk => by
    by_cases c : k = (orI t (pw2 (boF f b t))).toNat
    · rw [c, wI_at e]; rfl
    · rw [wI_ne e c]; exact hk
  have dn : ∀ s : Int, 0 ≤ s → (N.1 109 s.toNat).toInt = 1 → s = orI t (pw2 (boF f b t)) ∨ (M.1 109 s.toNat).toInt = 1 := fun s s0 hs => by
    by_cases c : s = orI t (pw2 (boF f b t))
    · exact Or.inl c
    · rw [wI_ne e (show s.toNat ≠ (orI t (pw2 (boF f b t))).toNat by omega)] at hs; exact Or.inr hs
  refine ⟨up _ h0, fun s s0 s1 hs => ?_, fun s b' s0 hs s1 hn b0 b1 => ?_⟩
  · rcases dn s s0 hs with z | z
    · rw [z]; exact rx_t (h2 t q.1 (by omega) h1) q.2.2 hk
    · exact h2 s s0 s1 z
  · have ms : (M.1 109 s.toNat).toInt = 1 := by
      rcases dn s s0 hn with z | z
      · rw [show s = t by omega]; exact h1
      · exact z
    by_cases c : s = t ∧ b' = b
    · rw [c.1, c.2]; right; rw [wI_at e]; rfl
    · rcases h3 s b' s0 (by omega) s1 ms b0 b1 with z | z
      · exact Or.inl z
      · exact Or.inr (up _ z))
theorem cm_n {M : mm_M} {f : Nat → Int32} {t b : Int} (h : b01 (CMX M f t b) = 1) (hk : boF f b t = -1) : b01 (CMX M f t (b + 1)) = 1 := b01_i (by
  obtain ⟨h0, h2, h3⟩ := b01_e h
  refine ⟨h0, h2, fun s b' s0 hs s1 hn b0 b1 => ?_⟩
  by_cases c : s = t ∧ b' = b
  · rw [c.1, c.2]; exact Or.inl hk
  · exact h3 s b' s0 (by omega) s1 hn b0 b1)
theorem cm_t {M : mm_M} {f : Nat → Int32} {t b t' : Int} (h : b01 (CMX M f t b) = 1) (e : b = (f 1).toInt ∨ ¬ (M.1 109 t.toNat).toInt = 1) (ht : t' = t + 1) : b01 (CMX M f t' 0) = 1 := b01_i (by
  obtain ⟨h0, h2, h3⟩ := b01_e h
  refine ⟨h0, h2, fun s b' s0 hs s1 hn b0 b1 => ?_⟩
  by_cases c : s = t
  · rcases e with e | e
    · exact h3 s b' s0 (by omega) s1 hn b0 b1
    · rw [c] at hn; exact absurd hn e
  · exact h3 s b' s0 (by omega) s1 hn b0 b1)
def CME (M : mm_M) (f : Nat → Int32) : Prop := ∀ s : Int, 0 ≤ s → s ≤ 255 → (M.1 109 s.toNat).toInt = rxI f s
theorem cm_e {M : mm_M} {f : Nat → Int32} {t : Int} (r : RNS f) (h : b01 (CMX M f t 0) = 1) (ht : evF f < t) (hb : ∀ s : Int, 0 ≤ s → s ≤ 255 → (M.1 109 s.toNat).toInt = 0 ∨ (M.1 109 s.toNat).toInt = 1) : b01 (CME M f) = 1 := b01_i (fun s s0 s1 => by
  obtain ⟨h0, h2, h3⟩ := b01_e h
  have a : ∀ (n : Nat) (s : Int), RXn f n s → (M.1 109 s.toNat).toInt = 1 := fun n => by
    induction n with
    | zero => intro s h; rw [show s = (f 27).toInt from h]; exact h0
    | succ n ih =>
      intro s h
      obtain ⟨x, b, hx, b0, b1, hk, e⟩ := h
      have w := rx_r r ⟨n, hx⟩
      rw [e]
      exact (h3 x b w.2.1 (by omega) w.1.2 (ih x hx) b0 b1).resolve_left hk
  rcases rxI_s f s with ⟨p, q⟩ | ⟨p, q⟩
  · obtain ⟨n, p⟩ := p
    rw [q]; exact a n s p
  · rw [q]
    rcases hb s s0 s1 with z | z
    · exact z
    · exact absurd (h2 s s0 s1 z) p)
theorem cme_c {M N : mm_M} {f : Nat → Int32} (e : N.1 109 = M.1 109) (h : b01 (CME M f) = 1) : b01 (CME N f) = 1 := b01_i (by unfold CME; rw [e]; exact b01_e h)
theorem cmx_c {M N : mm_M} {f : Nat → Int32} {t b : Int} (e : N.1 109 = M.1 109) (h : b01 (CMX M f t b) = 1) : b01 (CMX N f t b) = 1 := b01_i (by unfold CMX; rw [e]; exact b01_e h)
theorem c0x_c {M N : mm_M} {f : Nat → Int32} {t : Int} (e : N.1 109 = M.1 109) (h : b01 (C0X M f t) = 1) : b01 (C0X N f t) = 1 := b01_i (by unfold C0X; rw [e]; exact b01_e h)
theorem cme_g {M : mm_M} {f : Nat → Int32} (h : b01 (CME M f) = 1) {s : Int} (q : 0 ≤ s ∧ s ≤ 255) : (M.1 109 s.toNat).toInt = rxI f s := b01_e h s q.1 q.2
theorem rns_i {M : mm_M} (h : INV0 M) (hp : b01 (PI M) = 1) : RNS (M.1 99) := by
  have a := h.rd (i := 99) (c := 45) (k := 26) rfl (show s_b 45 26 = (0, 8) from rfl)
  have b := h.rd (i := 99) (c := 45) (k := 1) rfl (show s_b 45 1 = (0, 6) from rfl)
  have c := h.rd (i := 99) (c := 45) (k := 27) rfl (show s_b 45 27 = (0, 255) from rfl)
  have p : (M.1 99 27).toInt < pw2 (M.1 99 26).toInt := b01_e hp 99 26 rfl
  refine ⟨a, ⟨c.1, ?_⟩, b⟩
  unfold evF
  omega
theorem b109 {M : mm_M} (h : INV0 M) : ∀ s : Int, 0 ≤ s → s ≤ 255 → (M.1 109 s.toNat).toInt = 0 ∨ (M.1 109 s.toNat).toInt = 1 := fun s _ _ => by
  have := h.rd (i := 109) (c := 55) (k := s.toNat) rfl (show s_b 55 s.toNat = (0, 1) from rfl)
  omega
