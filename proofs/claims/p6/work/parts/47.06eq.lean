/-! ROWS ALIKE: what is done and asked is the same -/
def RNQ (f : Nat → Int32) : Prop := (0 ≤ (f 26).toInt ∧ (f 26).toInt ≤ 8) ∧ (0 ≤ (f 1).toInt ∧ (f 1).toInt ≤ 6) ∧ 0 ≤ (f 4).toInt ∧ 0 ≤ (f 5).toInt
def EQR (g f : Nat → Int32) : Prop := (EQP g f ∧ EQS g f) ∧ RNQ f
theorem uR_e {f g : Nat → Int32} {k j : Nat} {v : Int} (h : g j = f j) : uR g k v j = uR f k v j := by
  unfold uR
  by_cases c : j = k
  · rw [if_pos c, if_pos c]
  · rw [if_neg c, if_neg c, h]
/-- one place written alike, neither a count nor a law's mark -/
theorem eqr_u {f g : Nat → Int32} (h : EQR g f) {k : Nat} (v : Int) (hk : 8 ≤ k ∧ k ≠ 26) : EQR (uR g k v) (uR f k v) := by
  obtain ⟨⟨⟨h0, h1, h2, h3, h4⟩, ⟨k1, k2, k3, k4, k5, k6⟩, k7⟩, rn⟩ := h
  have L : ∀ l : Nat, l ≤ 1 → EQL g f l → EQL (uR g k v) (uR f k v) l := fun l hl e => by
    unfold EQL at *
    rw [uR_n (f := g) (show 2 + l ≠ k by omega), uR_n (f := f) (show 2 + l ≠ k by omega), uR_n (f := g) (show 4 + l ≠ k by omega), uR_n (f := f) (show 4 + l ≠ k by omega), uR_n (f := g) (show 6 + l ≠ k by omega), uR_n (f := f) (show 6 + l ≠ k by omega)]
    exact ⟨e.1, fun z => ⟨(e.2 z).1, (e.2 z).2.1, fun i hi => uR_e ((e.2 z).2.2 i hi)⟩⟩
  refine ⟨⟨⟨uR_e h0, uR_e h1, fun b b0 b1 => ?_, L 0 (by decide) h3, L 1 (by decide) h4⟩, ⟨uR_e k1, uR_e k2, uR_e k3, uR_e k4, uR_e k5, uR_e k6⟩, fun i i0 i1 => ?_⟩, by unfold RNQ; rw [uR_n (show 26 ≠ k by omega), uR_n (show 1 ≠ k by omega), uR_n (show 4 ≠ k by omega), uR_n (show 5 ≠ k by omega)]; exact rn⟩
  · rw [uR_n (show 1 ≠ k by omega)] at b1
    exact ⟨uR_e (h2 b b0 b1).1, uR_e (h2 b b0 b1).2.1, uR_e (h2 b b0 b1).2.2⟩
  · rw [uR_n (show 26 ≠ k by omega)] at i1
    exact ⟨uR_e (k7 i i0 i1).1, uR_e (k7 i i0 i1).2⟩
theorem eqr_w {f g : Nat → Int32} (h : EQR g f) {k : Nat} {v w : Int} (e : v = w) (hk : 8 ≤ k ∧ k ≠ 26) : EQR (uR g k v) (uR f k w) := by
  subst e; exact eqr_u h v hk
theorem eq_k {f g : Nat → Int32} (h : EQR g f) : g 26 = f 26 ∧ g 27 = f 27 ∧ g 28 = f 28 ∧ g 29 = f 29 ∧ g 30 = f 30 ∧ g 32 = f 32 ∧ g 0 = f 0 ∧ g 1 = f 1 := ⟨h.1.2.1.1, h.1.2.1.2.1, h.1.2.1.2.2.1, h.1.2.1.2.2.2.1, h.1.2.1.2.2.2.2.1, h.1.2.1.2.2.2.2.2, h.1.1.1, h.1.1.2.1⟩
theorem eq_ev {f g : Nat → Int32} (h : EQR g f) : evF g = evF f := by unfold evF; rw [(eq_k h).1]
theorem eq_sh {f g : Nat → Int32} (h : EQR g f) (s : Int) : shF g s = shF f s := sh_c h.1.2.1.1 h.1.2.1.2.2.1 s
theorem eq_bo {f g : Nat → Int32} (h : EQR g f) {b : Int} (hb : 0 ≤ b ∧ b < (f 1).toInt) (s : Int) : boF g b s = boF f b s := bo_eq h.1.1 h.1.2 hb s
theorem eq_bn {f g : Nat → Int32} (h : EQR g f) {b : Int} (hb : 0 ≤ b ∧ b < (f 1).toInt) : bnF g b = bnF f b := by unfold bnF; rw [(eq_k h).2.1]; exact eq_bo h hb _
theorem eq_wv {f g : Nat → Int32} (h : EQR g f) (b : Int) : wvF g b = wvF f b := by
  unfold wvF
  rw [(eq_k h).2.2.2.2.2.2.2, (eq_k h).2.1, eq_sh h]
  by_cases c : b < 0 ∨ (f 1).toInt ≤ b
  · rw [if_pos c, if_pos c]
  · rw [if_neg c, if_neg c, eq_bn h (by omega)]
theorem eq_wk {f g : Nat → Int32} (h : EQR g f) (k : Int) : wkF g k = wkF f k := by unfold wkF; rw [(eq_k h).1, (eq_k h).2.1, eq_sh h]
theorem eq_wp {f g : Nat → Int32} (h : EQR g f) (k n : Int) : wpF g k n = wpF f k n := by unfold wpF; rw [(eq_k h).1, (eq_k h).2.1, eq_sh h]
theorem eq_wa {f g : Nat → Int32} (h : EQR g f) (n y : Int) : waF g n y = waF f n y := by unfold waF; rw [(eq_k h).1, (eq_k h).2.1, eq_sh h]
theorem eq_wn {f g : Nat → Int32} (h : EQR g f) (v : Int) : wnF g v = wnF f v := by unfold wnF; rw [eq_wv h, eq_wk h, eq_wk h, eq_wp h]
/-- deeds -/
theorem eq_vs {f g : Nat → Int32} (h : EQR g f) {b : Int} (hw : wvF f b = 0) : EQR (vsS g b) (vsS f b) := by
  have hb : 0 ≤ b ∧ b < (f 1).toInt := by
    unfold wvF at hw
    by_cases c : b < 0 ∨ (f 1).toInt ≤ b
    · rw [if_pos c] at hw; exact absurd hw (by decide)
    · omega
  have hn : ¬ bnF f b = -1 := fun z => by
    unfold wvF at hw
    rw [if_neg (by omega)] at hw
    by_cases c : shF f (f 27).toInt = 1
    · rw [if_pos c] at hw; exact absurd hw (by decide)
    · rw [if_neg c, if_pos z] at hw; exact absurd hw (by decide)
  have e := eq_bn h hb
  have l : bnF f b < (f 26).toInt := boF_lt f b _ h.2.1.1
  have m := bn_m1 f b
  have p := (h.1.2.2 (bnF f b) (by omega) l).1
  unfold vsS
  rw [e]
  exact eqr_w (eqr_w h (by rw [(eq_k h).2.1]) (by decide)) (by rw [(eq_k h).2.2.2.1, p]) (by decide)
theorem eq_gs {f g : Nat → Int32} (h : EQR g f) : EQR (gsS g) (gsS f) := eqr_w h (by rw [(eq_k h).2.2.2.2.1]) (by decide)
theorem eq_hs {f g : Nat → Int32} (h : EQR g f) (k : Int) : EQR (hsS g k) (hsS f k) := eqr_w h (by rw [(eq_k h).2.2.1]) (by decide)
theorem eq_ps {f g : Nat → Int32} (h : EQR g f) {k : Int} (hk : 0 ≤ k) (n : Int) : EQR (psS g k n) (psS f k n) := eqr_w h rfl (by omega)
theorem eq_dr {f g : Nat → Int32} (h : EQR g f) : EQR (drS g) (drS f) := eqr_w h (by rw [(eq_k h).2.2.2.2.2.1]) (by decide)
theorem eq_df {f g : Nat → Int32} (h : EQR g f) (b : Int) : drF g b = drF f b := by unfold drF; rw [(eq_k h).2.2.2.2.2.1]
/-- the day, told of neither -/
theorem eqr_31 {f g f' g' : Nat → Int32} (h : EQR g f) (og : ∀ j, j ≠ 31 → g' j = g j) (of : ∀ j, j ≠ 31 → f' j = f j) : EQR g' f' := by
  obtain ⟨⟨⟨h0, h1, h2, h3, h4⟩, ⟨k1, k2, k3, k4, k5, k6⟩, k7⟩, rn⟩ := h
  have u : ∀ j : Nat, j ≠ 31 → g j = f j → g' j = f' j := fun j hj e => by rw [og j hj, of j hj, e]
  have L : ∀ l : Nat, l ≤ 1 → 0 ≤ (f (4 + l)).toInt → EQL g f l → EQL g' f' l := fun l hl p e => by
    unfold EQL at *
    rw [og _ (show 2 + l ≠ 31 by omega), og _ (show 4 + l ≠ 31 by omega), og _ (show 6 + l ≠ 31 by omega), of _ (show 2 + l ≠ 31 by omega), of _ (show 4 + l ≠ 31 by omega), of _ (show 6 + l ≠ 31 by omega)]
    exact ⟨e.1, fun z => ⟨(e.2 z).1, (e.2 z).2.1, fun i hi => u _ (by omega) ((e.2 z).2.2 i hi)⟩⟩
  refine ⟨⟨⟨u _ (by decide) h0, u _ (by decide) h1, fun b b0 b1 => ?_, L 0 (by decide) rn.2.2.1 h3, L 1 (by decide) rn.2.2.2 h4⟩, ⟨u _ (by decide) k1, u _ (by decide) k2, u _ (by decide) k3, u _ (by decide) k4, u _ (by decide) k5, u _ (by decide) k6⟩, fun i i0 i1 => ?_⟩, ?_⟩
  · rw [of 1 (by decide)] at b1
    have q := rn.2.1
    exact ⟨u _ (by omega) (h2 b b0 b1).1, u _ (by omega) (h2 b b0 b1).2.1, u _ (by omega) (h2 b b0 b1).2.2⟩
  · rw [of 26 (by decide)] at i1
    exact ⟨u _ (by omega) (k7 i i0 i1).1, u _ (by omega) (k7 i i0 i1).2⟩
  · unfold RNQ
    rw [of 26 (by decide), of 1 (by decide), of 4 (by decide), of 5 (by decide)]; exact rn
theorem eq_dg {f g : Nat → Int32} (h : EQR g f) : EQR (dgS g) (dgS f) := eqr_31 h (fun _ hj => uR_n hj) (fun _ hj => uR_n hj)
/-- a row where the day alone is another -/
theorem eqr_d {f g g' : Nat → Int32} (h : EQR g f) (og : ∀ j, j ≠ 31 → g' j = g j) : EQR g' f := eqr_31 h og (fun _ _ => rfl)
/-! the odds -/
def ODQ (f : Nat → Int32) : Prop := ∀ b : Int, 0 ≤ b → b < (f 1).toInt → 0 ≤ (f (20 + b).toNat).toInt ∧ (f (20 + b).toNat).toInt ≤ 9
theorem odq_u {f : Nat → Int32} {k : Nat} {v : Int} (h : ODQ f) (hk : 26 ≤ k) (h1 : (f 1).toInt ≤ 6) : ODQ (uR f k v) := by
  unfold ODQ
  rw [uR_n (show 1 ≠ k by omega)]
  exact fun b b0 b1 => by rw [uR_n (by omega)]; exact h b b0 b1
theorem ps_e {f g : Nat → Int32} (h : ∀ b : Int, 0 ≤ b → b < (f 1).toInt → EQB g f b) : ∀ n : Nat, (n : Int) ≤ (f 1).toInt → psF g n = psF f n
  | 0, _ => rfl
  | n + 1, hn => by rw [psF, psF, ps_e h n (by omega), (h (n : Int) (by omega) (by omega)).2.2]
theorem eq_og {f g : Nat → Int32} (h : EQR g f) : ogF g = ogF f := by
  unfold ogF
  rw [(eq_k h).2.2.2.2.2.2.2]
  exact ps_e h.1.1.2.2.1 _ (by have := h.2.2.1; omega)
/-- who comes: of those that are -/
theorem co_e {f g : Nat → Int32} (h : ∀ b : Int, 0 ≤ b → b < (f 1).toInt → EQB g f b) : ∀ (n : Nat) (b l : Int), 0 ≤ b → 0 ≤ l → l < psF f (f 1).toInt.toNat - psF f b.toNat → b ≤ (f 1).toInt → coR g n b l = coR f n b l
  | 0, _, _, _, _, _, _ => rfl
  | n + 1, b, l, b0, l0, hl, b1 => by
    by_cases c : b = (f 1).toInt
    · rw [← c] at hl; omega
    · have e := (h b b0 (by omega)).2.2
      have s := psF_s f b b0
      rw [coR, coR, e]
      by_cases z : (f (20 + b).toNat).toInt ≤ l
      · rw [if_pos z, if_pos z]; exact co_e h n (b + 1) _ (by omega) (by omega) (by rw [s]; omega) (by omega)
      · rw [if_neg z, if_neg z]
theorem psF_n {f : Nat → Int32} (h : ODQ f) : ∀ n : Nat, (n : Int) ≤ (f 1).toInt → 0 ≤ psF f n
  | 0, _ => Int.le_refl 0
  | n + 1, hn => by
    have a := psF_n h n (by omega)
    have b := (h (n : Int) (by omega) (by omega)).1
    rw [psF]; omega
theorem drF_b (f : Nat → Int32) {b : Int} (hb : 0 < b) : 0 ≤ drF f b ∧ drF f b < b := by
  unfold drF
  rw [rmI_e]
  exact ⟨Int.emod_nonneg _ (by omega), Int.emod_lt_of_pos _ hb⟩
theorem odq_c {f g : Nat → Int32} (e : ∀ j : Nat, j < 26 → g j = f j) (h1 : (f 1).toInt ≤ 6) (h : ODQ f) : ODQ g := by
  unfold ODQ
  rw [e 1 (by decide)]
  exact fun b b0 b1 => by rw [e _ (by omega)]; exact h b b0 b1
theorem dgS_o (f : Nat → Int32) {j : Nat} (h : j ≠ 31) : dgS f j = f j := uR_n h
theorem deS_o (f : Nat → Int32) {j : Nat} (h : j < 31) : deS f j = f j := by
  unfold deS drS
  rw [uR_n (by omega), dgS_o f (by omega)]
theorem eq_de {f g : Nat → Int32} (h : EQR g f) : EQR (deS g) (deS f) := eq_dr (eq_dg h)
theorem eq_dc {f g : Nat → Int32} (h : EQR g f) (ho : ODQ f) (hz : ¬ ogF (dgS f) = 0) : dcF g = dcF f := by
  have hd := eq_dg h
  have he := eq_de h
  have e1 : (deS f 1) = f 1 := deS_o f (by decide)
  have p : ogF (dgS f) = psF (deS f) (deS f 1).toInt.toNat := by
    unfold ogF
    rw [dgS_o f (show 1 ≠ 31 by decide), e1]
    exact psF_c _ (by have := h.2.2.1; omega) (fun k k0 k1 => by rw [dgS_o f (by omega), deS_o f (by omega)])
  have n0 : 0 ≤ ogF (dgS f) := by
    rw [p]
    exact psF_n (odq_c (g := deS f) (fun j hj => deS_o f (by omega)) h.2.2.1.2 ho) _ (by have := h.2.2.1; rw [e1]; omega)
  have d := drF_b (dgS f) (b := ogF (dgS f)) (by omega)
  unfold dcF
  rw [eq_og hd, eq_df hd]
  exact co_e he.1.1.2.2.1 6 0 _ (by decide) d.1 (by rw [← p]; show _ < _ - psF (deS f) 0; rw [psF]; omega) (by rw [e1]; exact h.2.2.1.1)
theorem eq_dy {f g : Nat → Int32} (h : EQR g f) (ho : ODQ f) : EQR (dyS g) (dyS f) ∧ dyA g = dyA f := by
  have hd := eq_dg h
  have he := eq_de h
  unfold dyS dyA
  rw [eq_og hd]
  by_cases z : ogF (dgS f) = 0
  · rw [if_pos z, if_pos z, if_pos z, if_pos z]; exact ⟨hd, rfl⟩
  · rw [if_neg z, if_neg z, if_neg z, if_neg z, eq_dc h ho z, eq_wv he]
    by_cases y : wvF (deS f) (dcF f) = 0
    · rw [if_pos y, if_pos y, if_pos y]; exact ⟨eq_vs he y, rfl⟩
    · rw [if_neg y, if_neg y, if_neg y]; exact ⟨he, rfl⟩
theorem dyS_o (f : Nat → Int32) {j : Nat} (h : j < 26) : dyS f j = f j := by
  unfold dyS
  repeat' split
  · exact dgS_o f (by omega)
  · unfold vsS; rw [uR_n (by omega), uR_n (by omega)]; exact deS_o f (by omega)
  · exact deS_o f (by omega)
theorem eq_ds {f g : Nat → Int32} (h : EQR g f) (ho : ODQ f) : ∀ n : Nat, (EQR (dsS g n).1 (dsS f n).1 ∧ (dsS g n).2 = (dsS f n).2) ∧ ∀ j, j < 26 → (dsS f n).1 j = f j
  | 0 => ⟨⟨h, rfl⟩, fun _ _ => rfl⟩
  | n + 1 => by
    obtain ⟨⟨a, b⟩, c⟩ := eq_ds h ho n
    obtain ⟨d, e⟩ := eq_dy a (odq_c c h.2.2.1.2 ho)
    rw [dsS, dsS]
    exact ⟨⟨d, by show _ + _ = _ + _; rw [b, e]⟩, fun j hj => (dyS_o _ hj).trans (c j hj)⟩
theorem doS_o (f : Nat → Int32) {v : Int} (hv : wnF f v = 0) {j : Nat} (h : j < 26) : doS f v j = f j := by
  unfold doS
  repeat' split
  · exact dyS_o f h
  · unfold vsS; rw [uR_n (by omega), uR_n (by omega)]
  · unfold gsS; rw [uR_n (by omega)]
  · unfold hsS; rw [uR_n (by omega)]
  · have := wnF_s f v
    unfold psS; rw [uR_n (by omega)]
theorem eq_do {f g : Nat → Int32} (h : EQR g f) (ho : ODQ f) {v : Int} (hv : wnF f v = 0) : EQR (doS g v) (doS f v) := by
  rcases wnF_s f v with ⟨q, _⟩ | ⟨q, e⟩ | ⟨q, _⟩ | ⟨q, _⟩ | ⟨q, _⟩ | q
  · rw [do_m g q, do_m f q]; exact (eq_dy h ho).1
  · rw [do_v g (by omega), do_v f (by omega)]; exact eq_vs h (by rw [← e]; exact hv)
  · rw [do_g g (by omega), do_g f (by omega)]; exact eq_gs h
  · rw [do_h g (by omega), do_h f (by omega)]; exact eq_hs h _
  · rw [do_p g q.1, do_p f q.1]; exact eq_ps h (by omega) _
  · omega
theorem eq_tl {f g : Nat → Int32} (h : EQR g f) (ho : ODQ f) (T : Nat → Int) : ∀ n : Nat, (EQR (tlF g T n).1 (tlF f T n).1 ∧ (tlF g T n).2 = (tlF f T n).2) ∧ ∀ j, j < 26 → (tlF f T n).1 j = f j
  | 0 => ⟨⟨h, rfl⟩, fun _ _ => rfl⟩
  | n + 1 => by
    obtain ⟨⟨a, b⟩, c⟩ := eq_tl h ho T n
    rw [tlF, tlF, b]
    by_cases z : (tlF f T n).2.1 = 0
    · rw [if_pos z, if_pos z, eq_wn a]
      by_cases y : wnF (tlF f T n).1 (T n) = 0
      · rw [if_pos y, if_pos y]
        exact ⟨⟨eq_do a (odq_c c h.2.2.1.2 ho) y, rfl⟩, fun j hj => (doS_o _ y hj).trans (c j hj)⟩
      · rw [if_neg y, if_neg y]; exact ⟨⟨a, rfl⟩, c⟩
    · rw [if_neg z, if_neg z]; exact ⟨⟨a, b⟩, c⟩
theorem eq_dn {f g : Nat → Int32} (h : EQR g f) : EQR (dnS g) (dnS f) ∧ dnV g = dnV f ∧ ∀ j, j < 26 → dnS f j = f j := by
  have h2 := eq_dr h
  have o : ∀ (r : Nat → Int32) (j : Nat), j < 26 → drS r j = r j := fun r j hj => uR_n (by omega)
  unfold dnS dnV
  rw [eq_df h, eq_df h2, eq_df h2]
  refine ⟨?_, rfl, fun j hj => ?_⟩
  · split
    · exact h2
    · exact eq_dr h2
  · split
    · exact o f j hj
    · exact (o _ j hj).trans (o f j hj)
theorem eq_se {f g : Nat → Int32} (h : EQR g f) (ho : ODQ f) : ∀ n : Nat, (EQR (seF g n).1 (seF f n).1 ∧ (seF g n).2 = (seF f n).2) ∧ ∀ j, j < 26 → (seF f n).1 j = f j
  | 0 => ⟨⟨h, rfl⟩, fun _ _ => rfl⟩
  | n + 1 => by
    obtain ⟨⟨a, b⟩, c⟩ := eq_se h ho n
    obtain ⟨d, e, o⟩ := eq_dn a
    rw [seF, seF, e, eq_wn d, b]
    by_cases y : wnF (dnS (seF f n).1) (dnV (seF f n).1) = 0
    · rw [if_pos y, if_pos y]
      exact ⟨⟨eq_do d (odq_c (fun j hj => (o j hj).trans (c j hj)) h.2.2.1.2 ho) y, rfl⟩, fun j hj => (doS_o _ y hj).trans ((o j hj).trans (c j hj))⟩
    · rw [if_neg y, if_neg y]; exact ⟨⟨d, rfl⟩, fun j hj => (o j hj).trans (c j hj)⟩
/-! what is asked -/
theorem eq_wb {f g : Nat → Int32} (h : EQR g f) (k : Int) : ∀ n : Nat, (n : Int) ≤ (f 1).toInt → wbF g k n = wbF f k n
  | 0, _ => rfl
  | n + 1, hn => by rw [wbF, wbF, eq_wb h k n (by omega), eq_bn h (b := (n : Int)) (by omega)]
theorem eq_mw {f g : Nat → Int32} (h : EQR g f) {b : Int} (hb : 0 ≤ b ∧ b < (f 1).toInt) : ∀ n : Nat, (n : Int) ≤ (f 26).toInt → mwF g b n = mwF f b n
  | 0, _ => rfl
  | n + 1, hn => by rw [mwF, mwF, eq_mw h hb n (by omega), (eq_k h).2.1, mb_eq h.1.1 h.1.2 hb (k := (n : Int)) (by omega)]
theorem eq_kn {f g : Nat → Int32} (h : EQR g f) (k w : Int) : knF g k w = knF f k w := by
  unfold knF
  rw [(eq_k h).1, (eq_k h).2.1, (eq_k h).2.2.1, (eq_k h).2.2.2.2.2.2.2, eq_wb h k _ (by have := h.2.2.1; omega)]
  by_cases c : k < 0 ∨ (f 26).toInt ≤ k
  · rw [if_pos c, if_pos c]
  · have q := h.1.2.2 k (by omega) (by omega)
    rw [if_neg c, if_neg c, q.1, q.2]
theorem eq_by {f g : Nat → Int32} (h : EQR g f) (b w : Int) : byF g b w = byF f b w := by
  unfold byF
  rw [(eq_k h).1, (eq_k h).2.2.2.2.2.2.2]
  by_cases c : b < 0 ∨ (f 1).toInt ≤ b
  · rw [if_pos c, if_pos c]
  · have q := h.1.1.2.2.1 b (by omega) (by omega)
    rw [if_neg c, if_neg c, q.1, q.2.1, q.2.2, eq_bn h (by omega), eq_mw h (by omega) _ (by have := h.2.1; omega)]
theorem eq_ws {f g : Nat → Int32} (h : EQR g f) (b k : Int) : wsF g b k = wsF f b k := by
  unfold wsF
  rw [(eq_k h).1, (eq_k h).2.1, (eq_k h).2.2.2.2.2.2.2]
  by_cases c : (b < 0 ∨ (f 1).toInt ≤ b) ∨ (k < 0 ∨ (f 26).toInt ≤ k)
  · rw [if_pos c, if_pos c]
  · rw [if_neg c, if_neg c]; exact wt_eq h.1.1 h.1.2 (by omega) (by omega) _
/-! endings -/
theorem eq_edE {f g : Nat → Int32} (h : EQR g f) (G : Int → Int) (a s : Int) : ∀ n : Nat, (n : Int) ≤ (f 1).toInt → edE G g a s n = edE G f a s n
  | 0, _ => by rw [edE, edE, eq_sh h]
  | n + 1, hn => by
    rw [edE, edE, eq_edE h G a s n (by omega)]
    unfold stE
    rw [eq_bo h (b := (n : Int)) (by omega)]
theorem eq_edN {f g : Nat → Int32} (h : EQR g f) (a : Int) : ∀ m : Nat, edN g a m = edN f a m
  | 0 => by funext s; rfl
  | m + 1 => by
    funext s
    rw [edN, edN, eq_edN h a m, (eq_k h).2.2.2.2.2.2.2]
    exact eq_edE h _ a s _ (by have := h.2.2.1; omega)
theorem eq_ed {f g : Nat → Int32} (h : EQR g f) (a s : Int) : edF g a s = edF f a s := by unfold edF; rw [eq_edN h]
theorem eq_en {f g : Nat → Int32} (h : EQR g f) (a : Int) : enF g a = enF f a := by unfold enF; rw [(eq_k h).2.1, eq_ed h]
theorem eq_nc {f g : Nat → Int32} (h : EQR g f) {b : Int} (hb : 0 ≤ b ∧ b < (f 1).toInt) (s v : Int) : nbC g s v b ↔ nbC f s v b := by
  unfold nbC
  rw [eq_bo h hb, eq_ed h]
theorem eq_nb {f g : Nat → Int32} (h : EQR g f) (s v : Int) : ∀ (n : Nat) (b : Int), 0 ≤ b → (∃ c : Int, b ≤ c ∧ c < (f 1).toInt ∧ nbC f s v c) → nbS g s v n b = nbS f s v n b
  | 0, _, _, _ => rfl
  | n + 1, b, b0, w => by
    obtain ⟨c, c0, c1, c2⟩ := w
    have e := eq_nc h (b := b) (by omega) s v
    rw [nbS, nbS]
    by_cases z : nbC f s v b
    · rw [if_pos (b01_i z), if_pos (b01_i (e.mpr z))]
    · rw [if_neg (fun q => z (b01_e q)), if_neg (fun q => z (e.mp (b01_e q)))]
      refine eq_nb h s v n (b + 1) (by omega) ⟨c, ?_, c1, c2⟩
      by_cases y : c = b
      · rw [y] at c2; exact absurd c2 z
      · omega
