/-! the class's outlook: the sets that can come, what each buyer would buy there -/
def RCn (f : Nat → Int32) : Nat → Int → Prop
  | 0, s => s = (f 27).toInt
  | n + 1, s => ∃ s0 b : Int, RCn f n s0 ∧ 0 ≤ b ∧ b < (f 1).toInt ∧ ¬ boF f b s0 = -1 ∧ s = orI s0 (pw2 (boF f b s0))
def RC (f : Nat → Int32) (s : Int) : Prop := ∃ n, RCn f n s
theorem rc_s {f : Nat → Int32} {s b : Int} (h : RC f s) (hb : 0 ≤ b ∧ b < (f 1).toInt) (hk : ¬ boF f b s = -1) : RC f (orI s (pw2 (boF f b s))) := by
  obtain ⟨n, h⟩ := h
  exact ⟨n + 1, s, b, h, hb.1, hb.2, hk, rfl⟩
/-- fields of the outlook, aimed -/
def AIM (M : mm_M) (p : Nat) (f : Nat → Int32) : Prop := M.2.2 88 9 = p ∧ (M.1 88 11).toInt = evF f ∧ (M.1 88 12).toInt = snF f ∧ (M.1 88 13).toInt = (f 27).toInt ∧ (M.1 p 0).toInt = (f 1).toInt ∧ ((0 ≤ (f 26).toInt ∧ (f 26).toInt ≤ 8) ∧ (0 ≤ (f 27).toInt ∧ (f 27).toInt ≤ evF f) ∧ (0 ≤ (f 1).toInt ∧ (f 1).toInt ≤ 6))
/-- sets below t are met with all that follows -/
def LKQ (M : mm_M) (f : Nat → Int32) (t : Int) : Prop := (M.1 90 (f 27).toInt.toNat).toInt = 1 ∧ (∀ s : Int, 0 ≤ s → s ≤ 255 → (M.1 90 s.toNat).toInt = 1 → RC f s) ∧ ∀ s : Int, (f 27).toInt ≤ s → s < t → s ≤ evF f → (M.1 90 s.toNat).toInt = 1 → ∀ b : Int, 0 ≤ b → b < (f 1).toInt → (M.1 89 (6 * s + b).toNat).toInt = boF f b s ∧ (boF f b s = -1 ∨ (M.1 90 (orI s (pw2 (boF f b s))).toNat).toInt = 1)
def LKP (M : mm_M) (p : Nat) (f : Nat → Int32) : Prop := AIM M p f ∧ LKQ M f 256
/-- while set s is met: its buyers below b -/
def MTB (M : mm_M) (f : Nat → Int32) (s b : Int) : Prop := (M.1 90 s.toNat).toInt = 1 ∧ ∀ b' : Int, 0 ≤ b' → b' < b → (M.1 89 (6 * s + b').toNat).toInt = boF f b' s ∧ (boF f b' s = -1 ∨ (M.1 90 (orI s (pw2 (boF f b' s))).toNat).toInt = 1)
theorem lkq_p {M N : mm_M} {f : Nat → Int32} {t s b v : Int} (e : N = wI M 89 (6 * s + b).toNat (sI v)) (h : b01 (LKQ M f t) = 1) (q : t ≤ s ∧ 0 ≤ (f 27).toInt ∧ 0 ≤ b ∧ b < 6 ∧ (f 1).toInt ≤ 6) : b01 (LKQ N f t) = 1 := b01_i (by
  have h := b01_e h
  unfold LKQ at *
  rw [wI_cell e (show (90 : Nat) ≠ 89 by decide)]
  refine ⟨h.1, h.2.1, fun s' h1 h2 h3 h4 b' g0 g1 => ?_⟩
  rw [wI_ne e (show (6 * s' + b').toNat ≠ (6 * s + b).toNat by omega)]
  exact h.2.2 s' h1 h2 h3 h4 b' g0 g1)
theorem lkq_m {M N : mm_M} {f : Nat → Int32} {t x : Int} (e : N = wI M 90 x.toNat (sI 1)) (h : b01 (LKQ M f t) = 1) (q : (0 ≤ x ∧ x ≤ 255) ∧ t ≤ x ∧ 0 ≤ (f 27).toInt) (hr : RC f x) : b01 (LKQ N f t) = 1 := b01_i (by
  have h := b01_e h
  have at_ : ∀ s : Int, 0 ≤ s → (N.1 90 s.toNat).toInt = 1 → s = x ∨ (M.1 90 s.toNat).toInt = 1 := fun s h0 h1 => by
    by_cases c : s = x
    · exact Or.inl c
    · rw [wI_ne e (show s.toNat ≠ x.toNat by omega)] at h1; exact Or.inr h1
  have up : ∀ s : Int, (M.1 90 s.toNat).toInt = 1 → (N.1 90 s.toNat).toInt = 1 := fun s h1 => by
    by_cases c : s.toNat = x.toNat
    · rw [c, wI_at e]; decide
    · rw [wI_ne e c]; exact h1
  refine ⟨up _ h.1, fun s h0 h1 h2 => ?_, fun s h1 h2 h3 h4 b g0 g1 => ?_⟩
  · rcases at_ s h0 h2 with c | c
    · rw [c]; exact hr
    · exact h.2.1 s h0 h1 c
  · have c : (M.1 90 s.toNat).toInt = 1 := by
      rcases at_ s (by omega) h4 with c | c
      · omega
      · exact c
    have z := h.2.2 s h1 h2 h3 c b g0 g1
    rw [wI_cell e (show (89 : Nat) ≠ 90 by decide)]
    refine ⟨z.1, ?_⟩
    rcases z.2 with y | y
    · exact Or.inl y
    · exact Or.inr (up _ y))
theorem mtb_0 {M N : mm_M} {f : Nat → Int32} {s : Int} (e : N = wI M 90 s.toNat (sI 1)) : b01 (MTB N f s 0) = 1 := b01_i ⟨by rw [wI_at e]; decide, fun b h0 h1 => by omega⟩
theorem mtb_c {S : List Nat} {M N : mm_M} {f : Nat → Int32} {s b : Int} (h : b01 (MTB M f s b) = 1) (hf : FX S M N) (h9 : 89 ∉ S ∧ 90 ∉ S) : b01 (MTB N f s b) = 1 := b01_i (by
  have h := b01_e h
  unfold MTB at *
  rw [hf.cell h9.1, hf.cell h9.2]; exact h)
theorem lkq_c {S : List Nat} {M N : mm_M} {f : Nat → Int32} {t : Int} (h : b01 (LKQ M f t) = 1) (hf : FX S M N) (h9 : 89 ∉ S ∧ 90 ∉ S) : b01 (LKQ N f t) = 1 := b01_i (by
  have h := b01_e h
  unfold LKQ at *
  rw [hf.cell h9.1, hf.cell h9.2]; exact h)
theorem mtb_p {M N : mm_M} {f : Nat → Int32} {s b v : Int} (e : N = wI M 89 (6 * s + b).toNat (sI v)) (h : b01 (MTB M f s b) = 1) (q : 0 ≤ s ∧ 0 ≤ b) : b01 (MTB N f s b) = 1 ∧ ((-2147483648 ≤ v ∧ v ≤ 2147483647) → (N.1 89 (6 * s + b).toNat).toInt = v) := by
  have h := b01_e h
  refine ⟨b01_i ?_, fun r => by rw [wI_at e, sI_t r]⟩
  unfold MTB at *
  rw [wI_cell e (show (90 : Nat) ≠ 89 by decide)]
  refine ⟨h.1, fun b' h0 h1 => ?_⟩
  rw [wI_ne e (show (6 * s + b').toNat ≠ (6 * s + b).toNat by omega)]
  exact h.2 b' h0 h1
/-- one buyer more: nothing bought -/
theorem mtb_n {M : mm_M} {f : Nat → Int32} {s b b' : Int} (h : b01 (MTB M f s b) = 1) (q : b' = b + 1) (hp : (M.1 89 (6 * s + b).toNat).toInt = boF f b s) (hk : boF f b s = -1 ∨ (M.1 90 (orI s (pw2 (boF f b s))).toNat).toInt = 1) : b01 (MTB M f s b') = 1 := by
  have h := b01_e h
  subst q
  refine b01_i ⟨h.1, fun c h0 h1 => ?_⟩
  by_cases d : c = b
  · rw [d]; exact ⟨hp, hk⟩
  · exact h.2 c h0 (by omega)
/-- one buyer more: what it buys is met -/
theorem mtb_y {M N : mm_M} {f : Nat → Int32} {s b b' x : Int} (e : N = wI M 90 x.toNat (sI 1)) (h : b01 (MTB M f s b) = 1) (q : b' = b + 1) (hp : (M.1 89 (6 * s + b).toNat).toInt = boF f b s) (hx : x = orI s (pw2 (boF f b s))) : b01 (MTB N f s b') = 1 := by
  have up : ∀ j : Nat, (M.1 90 j).toInt = 1 → (N.1 90 j).toInt = 1 := fun j h1 => by
    by_cases c : j = x.toNat
    · rw [c, wI_at e]; decide
    · rw [wI_ne e c]; exact h1
  have k9 : N.1 89 = M.1 89 := wI_cell e (by decide)
  have h2 : b01 (MTB N f s b) = 1 := by
    have h := b01_e h
    refine b01_i ⟨up _ h.1, fun c h0 h1 => ?_⟩
    rw [k9]
    have z := h.2 c h0 h1
    exact ⟨z.1, z.2.elim Or.inl (fun y => Or.inr (up _ y))⟩
  exact mtb_n h2 q (by rw [k9]; exact hp) (Or.inr (by rw [← hx, wI_at e]; decide))
/-- set t is met and done -/
theorem lkq_s {M : mm_M} {f : Nat → Int32} {t t' : Int} (h : b01 (LKQ M f t) = 1) (hm : b01 (MTB M f t (f 1).toInt) = 1) (q : t' = t + 1) : b01 (LKQ M f t') = 1 := by
  have h := b01_e h
  have hm := b01_e hm
  subst q
  refine b01_i ⟨h.1, h.2.1, fun s h1 h2 h3 h4 b g0 g1 => ?_⟩
  by_cases c : s = t
  · rw [c]; exact hm.2 b g0 g1
  · exact h.2.2 s h1 (by omega) h3 h4 b g0 g1
theorem lkq_n {M : mm_M} {f : Nat → Int32} {t t' : Int} (h : b01 (LKQ M f t) = 1) (hm : ¬ (M.1 90 t.toNat).toInt = 1) (q : t' = t + 1) : b01 (LKQ M f t') = 1 := by
  have h := b01_e h
  subst q
  refine b01_i ⟨h.1, h.2.1, fun s h1 h2 h3 h4 b g0 g1 => ?_⟩
  by_cases c : s = t
  · rw [c] at h4; exact absurd h4 hm
  · exact h.2.2 s h1 (by omega) h3 h4 b g0 g1
theorem lkq_0 {M N : mm_M} {f : Nat → Int32} {s : Int} (hz : b01 (FIL M 90 0 256) = 1) (e : N = wI M 90 s.toNat (sI 1)) (hs : s = (f 27).toInt ∧ 0 ≤ s) : b01 (LKQ N f s) = 1 := by
  obtain ⟨rfl, h0⟩ := hs
  have hz := b01_e hz
  refine b01_i ⟨by rw [wI_at e]; decide, fun s h1 h2 h3 => ?_, fun s h1 h2 => by omega⟩
  by_cases c : s = (f 27).toInt
  · exact ⟨0, c⟩
  · rw [wI_ne e (show s.toNat ≠ (f 27).toInt.toNat by omega)] at h3
    have := hz s.toNat (by omega)
    omega
theorem lkp_i {M : mm_M} {p : Nat} {f : Nat → Int32} {t : Int} (ha : AIM M p f) (h : b01 (LKQ M f t) = 1) (q : evF f < t) : b01 (LKP M p f) = 1 := by
  have h := b01_e h
  exact b01_i ⟨ha, h.1, h.2.1, fun s h1 h2 h3 h4 => h.2.2 s h1 (by omega) h3 h4⟩
theorem and_ev {s K : Int} (h : 0 ≤ s ∧ s < pw2 K ∧ 0 ≤ K ∧ K ≤ 8) : andI s (pw2 K - 1) = s := by
  have key : ∀ k : Nat, k ≤ 8 → ∀ n : Nat, n < 2 ^ k → andI (n : Int) ((2 : Int) ^ k - 1) = (n : Int) := by decide +kernel
  have := key K.toNat (by omega) s.toNat (by
    have : ((s.toNat : Nat) : Int) < ((2 ^ K.toNat : Nat) : Int) := by
      rw [show ((s.toNat : Nat) : Int) = s by omega]
      have h2 : pw2 K = (2 : Int) ^ K.toNat := rfl
      rw [h2] at h
      rw [Int.natCast_pow]
      exact h.2.1
    exact_mod_cast this)
  rw [show ((s.toNat : Nat) : Int) = s by omega] at this
  exact this
theorem tn_g {S : List Nat} {M N : mm_M} {p : Nat} {f : Nat → Int32} (h : b01 (TN M p f) = 1) (hf : FX S M N) (cp : s_c p = 6) (hS : ∀ x ∈ S, (s_c x ≠ 6 ∧ s_c x ≠ 21 ∧ s_c x ≠ 22 ∧ s_c x ≠ 23 ∧ s_c x ≠ 24) ∧ x ≠ 12 ∧ x ≠ 81 ∧ x ≠ 82 ∧ x ≠ 83 ∧ x ≠ 84) : b01 (TN N p f) = 1 := by
  obtain ⟨⟨a1, a2, a3, a4, a5, a6⟩, b, c, d, e⟩ := b01_e h
  have hp : PLE M N p := ple_f hf cp (fun x hx => (hS x hx).1)
  have n12 : N.1 12 = M.1 12 := hf.cell (fun q => (hS 12 q).2.1 rfl)
  have n81 : N.1 81 = M.1 81 := hf.cell (fun q => (hS 81 q).2.2.1 rfl)
  have n82 : N.1 82 = M.1 82 := hf.cell (fun q => (hS 82 q).2.2.2.1 rfl)
  have n83 : N.1 83 = M.1 83 := hf.cell (fun q => (hS 83 q).2.2.2.2.1 rfl)
  have n84 : N.1 84 = M.1 84 := hf.cell (fun q => (hS 84 q).2.2.2.2.2 rfl)
  have md : ∀ g, mdX N p g = mdX M p g := fun g => by
    funext j
    unfold mdX
    rw [n81, n83, n84]
    by_cases q1 : j = 26
    · rw [if_pos q1, if_pos q1]
    · rw [if_neg q1, if_neg q1]
      by_cases q2 : 33 ≤ j ∧ j < 41
      · rw [if_pos q2, if_pos q2]
      · rw [if_neg q2, if_neg q2]
        by_cases q3 : 41 ≤ j ∧ j < 49
        · rw [if_pos q3, if_pos q3]
        · rw [if_neg q3, if_neg q3]
          by_cases q4 : j < 33
          · exact cl_lo g hp n12 q4
          · exact cl_hi _ _ hp (by omega)
  have hl : ∀ i j, b01 (LWX M p i j) = 1 → b01 (LWX N p i j) = 1 := fun i j q => by
    unfold LWX
    rw [md, hp.1]; exact q
  refine b01_i ⟨⟨(hf.2.1 81 5 (fun q => (hS 81 q).2.2.1 rfl)).trans a1, hl 7 8 a2, hl 9 10 a3, ?_, ?_, ?_⟩, by rw [n81]; exact b, fun g b s => by rw [md]; exact c g b s, fun b k s => by rw [md]; exact d b k s, fun g b k s => by rw [md]; exact e g b k s⟩
  · refine b01_i ?_
    unfold BTX
    rw [md, hp.1]; exact b01_e a4
  · refine b01_i ?_
    unfold PRX
    rw [n81, n83]; exact b01_e a5
  · refine b01_i (fun k b' o w hk hb ho hw => ?_)
    rw [n83, n82, md]; exact b01_e a6 k b' o w hk hb ho hw
theorem aim_i {M N : mm_M} {p v : Nat} {h : Int} (cp : s_c p = 6) (h9 : N.2.2 88 9 = p) (h11 : (N.1 88 11).toInt = pw2 (M.1 v 0).toInt - 1) (h12 : (N.1 88 12).toInt = andI (pw2 (M.1 v 0).toInt - 1) (-1 - h)) (h13 : (N.1 88 13).toInt = andI (M.1 v 3).toInt (pw2 (M.1 v 0).toInt - 1)) (hp : PLE M N p) (hh : 0 ≤ h ∧ h ≤ 255) (hk : 0 ≤ (M.1 v 0).toInt ∧ (M.1 v 0).toInt ≤ 8) (hs : 0 ≤ (M.1 v 3).toInt ∧ (M.1 v 3).toInt < pw2 (M.1 v 0).toInt) (hb : 0 ≤ (M.1 p 0).toInt ∧ (M.1 p 0).toInt ≤ 6) : b01 (AIM N p (seH (rwX M p v) (sI h))) = 1 := by
  have z : ∀ j, j ≠ 28 → seH (rwX M p v) (sI h) j = rwX M p v j := fun j hj => by unfold seH; rw [if_neg hj]
  have k26 : (seH (rwX M p v) (sI h) 26).toInt = (M.1 v 0).toInt := by rw [z _ (by decide)]; rfl
  have k27 : (seH (rwX M p v) (sI h) 27).toInt = (M.1 v 3).toInt := by rw [z _ (by decide)]; rfl
  have k1 : (seH (rwX M p v) (sI h) 1).toInt = (M.1 p 0).toInt := by rw [z _ (by decide)]; rfl
  have k28 : (seH (rwX M p v) (sI h) 28).toInt = h := by unfold seH; rw [if_pos rfl, sI_t (by omega)]
  have ev : evF (seH (rwX M p v) (sI h)) = pw2 (M.1 v 0).toInt - 1 := by unfold evF; rw [k26]
  refine b01_i ⟨h9, by rw [ev]; exact h11, ?_, ?_, ?_, ?_⟩
  · unfold snF; rw [ev, k28]; exact h12
  · rw [k27, h13]; exact and_ev ⟨hs.1, hs.2, hk.1, hk.2⟩
  · rw [k1, hp.1]
  · rw [k26, k27, k1, ev]; exact ⟨hk, ⟨hs.1, by omega⟩, hb⟩
theorem aim_c {S : List Nat} {M N : mm_M} {p : Nat} {f : Nat → Int32} (h : b01 (AIM M p f) = 1) (hf : FX S M N) (cp : s_c p = 6) (hS : 88 ∉ S ∧ ∀ x ∈ S, s_c x ≠ 6) : b01 (AIM N p f) = 1 := b01_i (by
  have h := b01_e h
  unfold AIM at *
  rw [hf.2.1 88 9 hS.1, hf.cell hS.1, hf.cell (i := p) (fun q => hS.2 p q cp)]
  exact h)
theorem aim_e {M : mm_M} {p : Nat} {f : Nat → Int32} (h : b01 (AIM M p f) = 1) : (M.1 88 11).toInt = evF f ∧ (M.1 88 12).toInt = snF f ∧ (M.1 88 13).toInt = (f 27).toInt ∧ (M.1 p 0).toInt = (f 1).toInt ∧ ((0 ≤ (f 26).toInt ∧ (f 26).toInt ≤ 8) ∧ (0 ≤ (f 27).toInt ∧ (f 27).toInt ≤ evF f) ∧ (0 ≤ (f 1).toInt ∧ (f 1).toInt ≤ 6)) := (b01_e h).2
/-! the class's measure of the ending -/
def fxV (v : Int) : Int := if 268435456 ≤ v then -1 else v
theorem fxV_s (v : Int) : (268435456 ≤ v ∧ fxV v = -1) ∨ (v < 268435456 ∧ fxV v = v) := by
  unfold fxV; split
  · exact Or.inl ⟨by assumption, rfl⟩
  · exact Or.inr ⟨by omega, rfl⟩
def FRQ (M : mm_M) (f : Nat → Int32) (a s : Int) : Prop := ∀ t : Int, s < t → (f 27).toInt ≤ t → t ≤ evF f → (M.1 90 t.toNat).toInt = 1 → (M.1 91 t.toNat).toInt = fxV (edF f a t)
def CMB (c a B : Int) : Prop := ∀ b : Int, 0 ≤ b → b < B → (b = a ∧ ¬ andI (shrI c b) 1 = 1) ∨ (¬ b = a ∧ andI (shrI c b) 1 = 1)
theorem cmb_g {c a B : Int} (h : b01 (CMB c a B) = 1) (b : Int) (q : 0 ≤ b ∧ b < B) : (b = a ∧ ¬ andI (shrI c b) 1 = 1) ∨ (¬ b = a ∧ andI (shrI c b) 1 = 1) := b01_e h b q.1 q.2
theorem cmb_n : ∀ B : Nat, B ≤ 6 → ∀ b : Nat, b < B → andI (shrI ((2 : Int) ^ B - 1) (b : Int)) 1 = 1 := by decide +kernel
theorem cmb_all {c B : Int} (hB : 0 ≤ B ∧ B ≤ 6) (hc : c = pw2 B - 1) : b01 (CMB c (-1) B) = 1 := b01_i (fun b h0 h1 => by
  right
  refine ⟨by omega, ?_⟩
  have := cmb_n B.toNat (by omega) b.toNat (by omega)
  rw [show ((b.toNat : Nat) : Int) = b by omega] at this
  rw [hc]; exact this)
theorem lkp_e {M : mm_M} {p : Nat} {f : Nat → Int32} (h : b01 (LKP M p f) = 1) : (M.2.2 88 9 = p ∧ (M.1 88 11).toInt = evF f ∧ (M.1 88 12).toInt = snF f ∧ (M.1 88 13).toInt = (f 27).toInt ∧ (M.1 p 0).toInt = (f 1).toInt) ∧ ((0 ≤ (f 26).toInt ∧ (f 26).toInt ≤ 8) ∧ (0 ≤ (f 27).toInt ∧ (f 27).toInt ≤ evF f) ∧ (0 ≤ (f 1).toInt ∧ (f 1).toInt ≤ 6) ∧ 0 ≤ evF f ∧ evF f ≤ 255) ∧ (M.1 90 (f 27).toInt.toNat).toInt = 1 := by
  obtain ⟨a, l⟩ := b01_e h
  have e := evF_b a.2.2.2.2.2.1
  exact ⟨⟨a.1, a.2.1, a.2.2.1, a.2.2.2.1, a.2.2.2.2.1⟩, ⟨a.2.2.2.2.2.1, a.2.2.2.2.2.2.1, a.2.2.2.2.2.2.2, e⟩, l.1⟩
theorem lkp_g {M : mm_M} {p : Nat} {f : Nat → Int32} (h : b01 (LKP M p f) = 1) {s b : Int} (q : (f 27).toInt ≤ s ∧ s ≤ evF f ∧ 0 ≤ b ∧ b < (f 1).toInt) (hm : (M.1 90 s.toNat).toInt = 1) : (M.1 89 (6 * s + b).toNat).toInt = boF f b s ∧ (boF f b s = -1 ∨ (M.1 90 (orI s (pw2 (boF f b s))).toNat).toInt = 1) := by
  have e := lkp_e h
  exact (b01_e h).2.2.2 s q.1 (by omega) q.2.1 hm b q.2.2.1 q.2.2.2
theorem lkp_c {S : List Nat} {M N : mm_M} {p : Nat} {f : Nat → Int32} (h : b01 (LKP M p f) = 1) (hf : FX S M N) (cp : s_c p = 6) (hS : (88 ∉ S ∧ ∀ x ∈ S, s_c x ≠ 6) ∧ 89 ∉ S ∧ 90 ∉ S) : b01 (LKP N p f) = 1 := by
  have h := b01_e h
  exact b01_i ⟨b01_e (aim_c (b01_i h.1) hf cp hS.1), b01_e (lkq_c (b01_i h.2) hf hS.2)⟩
theorem edE_b {f : Nat → Int32} {a s : Int} (hk : 0 ≤ (f 26).toInt ∧ (f 26).toInt ≤ 8) (hs : 0 ≤ s ∧ s ≤ 255) : ∀ n : Nat, edE (edF f a) f a s n = 268435456 ∨ (0 ≤ edE (edF f a) f a s n ∧ edE (edF f a) f a s n ≤ 255 - s)
  | 0 => by
    rw [edE]; split
    · exact Or.inr ⟨by omega, by omega⟩
    · exact Or.inl rfl
  | n + 1 => by
    have ih := edE_b (a := a) hk hs n
    rw [edE]
    unfold stE
    split
    · exact ih
    · split
      · rename_i c d
        have v := bo_ev (f := f) (b := (n : Int)) (s := s) hk
        have l' := boF_lt f (n : Int) s hk.1
        have m' : -1 ≤ boF f (n : Int) s := bo_m1g f (n : Int) s
        have l := ii_orI (s := s) (k := boF f (n : Int) s) ⟨hs.1, hs.2, by omega, by omega⟩ (by omega)
        have u := or_lt (s := s) (k := boF f (n : Int) s) (K := 8) ⟨hs.1, by show s < 256; omega, by omega, by omega, by omega⟩
        have u2 : orI s (pw2 (boF f (n : Int) s)) < 256 := u.2
        have b := edF_b (a := a) hk (s := orI s (pw2 (boF f (n : Int) s))) ⟨u.1, by omega⟩
        omega
      · exact ih
theorem edE_sh {g : Int → Int} {f : Nat → Int32} {a s : Int} (h : shF f s = 1) : ∀ n : Nat, edE g f a s n = 0
  | 0 => by rw [edE, if_pos h]
  | n + 1 => by
    rw [edE, edE_sh h n]
    unfold stE
    rw [if_pos (Or.inr (Or.inl (bo_sh h)))]
theorem edF_sh {f : Nat → Int32} {a s : Int} (hk : 0 ≤ (f 26).toInt ∧ (f 26).toInt ≤ 8) (hs : 0 ≤ s ∧ s ≤ 255) (h : shF f s = 1) : edF f a s = 0 := by rw [edF_e hk hs, edE_sh h]
theorem fr_0 (M : mm_M) (f : Nat → Int32) (a s : Int) (h : evF f ≤ s) : b01 (FRQ M f a s) = 1 := b01_i (fun t h1 h2 h3 => by omega)
theorem fr_s {M N : mm_M} {f : Nat → Int32} {a s v : Int} (e : N = wI M 91 s.toNat (sI v)) (h : b01 (FRQ M f a s) = 1) (q : (-2147483648 ≤ v ∧ v ≤ 2147483647) ∧ v = fxV (edF f a s) ∧ 0 ≤ s ∧ 0 ≤ (f 27).toInt) : b01 (FRQ N f a (s + (-1))) = 1 := b01_i (fun t h1 h2 h3 h4 => by
  rw [wI_cell e (show (90 : Nat) ≠ 91 by decide)] at h4
  by_cases c : t = s
  · rw [c, wI_at e, sI_t q.1]; exact q.2.1
  · rw [wI_ne e (show t.toNat ≠ s.toNat by omega)]; exact b01_e h t (by omega) h2 h3 h4)
theorem fr_n {M : mm_M} {f : Nat → Int32} {a s : Int} (h : b01 (FRQ M f a s) = 1) (q : ¬ (M.1 90 s.toNat).toInt = 1) : b01 (FRQ M f a (s + (-1))) = 1 := b01_i (fun t h1 h2 h3 h4 => by
  by_cases c : t = s
  · rw [c] at h4; exact absurd h4 q
  · exact b01_e h t (by omega) h2 h3 h4)
theorem fr_g {M : mm_M} {f : Nat → Int32} {a s : Int} (h : b01 (FRQ M f a s) = 1) (t : Int) (q : s < t ∧ (f 27).toInt ≤ t ∧ t ≤ evF f ∧ (M.1 90 t.toNat).toInt = 1) : (M.1 91 t.toNat).toInt = fxV (edF f a t) := b01_e h t q.1 q.2.1 q.2.2.1 q.2.2.2
theorem fr_c {S : List Nat} {M N : mm_M} {f : Nat → Int32} {a s : Int} (h : b01 (FRQ M f a s) = 1) (hf : FX S M N) (q : 90 ∉ S ∧ 91 ∉ S) : b01 (FRQ N f a s) = 1 := b01_i (by
  unfold FRQ; rw [hf.cell q.1, hf.cell q.2]; exact b01_e h)
theorem enF_x (f : Nat → Int32) (a : Int) : enF f a = fxV (edF f a (f 27).toInt) := rfl
/-- a buyer that brings the end nearer is still to come -/
def NXB (f : Nat → Int32) (s b0 : Int) : Prop := ∃ b : Int, b0 ≤ b ∧ b < (f 1).toInt ∧ ¬ boF f b s = -1 ∧ iiF s (boF f b s) = 0 ∧ edF f (-1) s = edF f (-1) (orI s (pw2 (boF f b s))) + 1
theorem nxb_0 {f : Nat → Int32} {s : Int} (hk : 0 ≤ (f 26).toInt ∧ (f 26).toInt ≤ 8) (hs : 0 ≤ s ∧ s ≤ 255) (h : 1 ≤ edF f (-1) s ∧ edF f (-1) s < 268435456) (hB : 0 ≤ (f 1).toInt) : b01 (NXB f s 0) = 1 := b01_i (by
  have e := edF_e (a := -1) hk hs
  rcases edE_ex (g := edF f (-1)) (f := f) (a := -1) (s := s) (f 1).toInt.toNat with q | ⟨b, q1, q2, q3⟩
  · rw [← e] at q
    split at q <;> omega
  · exact ⟨(b : Int), by omega, by omega, by omega, by omega, by rw [e]; exact q3⟩)
theorem nxb_s {f : Nat → Int32} {s b b' : Int} (h : b01 (NXB f s b) = 1) (q : b' = b + 1) (hn : boF f b s = -1 ∨ ¬ iiF s (boF f b s) = 0 ∨ ¬ edF f (-1) s = edF f (-1) (orI s (pw2 (boF f b s))) + 1) : b01 (NXB f s b') = 1 := b01_i (by
  obtain ⟨c, h1, h2, h3, h4, h5⟩ := b01_e h
  by_cases d : c = b
  · subst d; omega
  · exact ⟨c, by omega, h2, h3, h4, h5⟩)
theorem nxb_b {f : Nat → Int32} {s b : Int} (h : b01 (NXB f s b) = 1) : b < (f 1).toInt := by
  obtain ⟨c, h1, h2, _⟩ := b01_e h
  omega
theorem ed_le {f : Nat → Int32} {s b : Int} (hk : 0 ≤ (f 26).toInt ∧ (f 26).toInt ≤ 8) (hs : 0 ≤ s ∧ s ≤ 255) (hb : 0 ≤ b ∧ b < (f 1).toInt) : boF f b s = -1 ∨ ¬ iiF s (boF f b s) = 0 ∨ edF f (-1) s ≤ edF f (-1) (orI s (pw2 (boF f b s))) + 1 := by
  by_cases h1 : boF f b s = -1
  · exact Or.inl h1
  by_cases h2 : iiF s (boF f b s) = 0
  · right; right
    have z := edE_le (g := edF f (-1)) (f := f) (a := -1) (s := s) (b := b.toNat) (by rw [show ((b.toNat : Nat) : Int) = b by omega]; omega) (f 1).toInt.toNat (by omega)
    rw [show ((b.toNat : Nat) : Int) = b by omega, ← edF_e hk hs] at z
    exact z
  · exact Or.inr (Or.inl h2)
theorem adI_x (a b : Int) : (a + b < -2147483648 ∨ 2147483647 < a + b) ∨ addI a b = a + b := by
  by_cases h : -2147483648 ≤ a + b ∧ a + b ≤ 2147483647
  · refine Or.inr ?_
    unfold addI
    rw [show sI a + sI b = sI (a + b) from (Int32.ofInt_add a b).symm]
    exact Int32.toInt_ofInt_of_le (by omega) (by omega)
  · exact Or.inl (by omega)
