/-! deeds: what both sides hold alike behind them -/
theorem cts_b {M N : mm_M} {gp : Nat} {f : Nat → Int32} {x y : Int} {wR wf A r : Int} {GR Gf : Nat → Int32} (hb : BPX M) (cp : s_c gp = 6) (h : CTS M gp f x) (hp : PLE M N gp) (ha : b01 (APX N gp) = 1) (h0 : SMC N M IM0) (h1 : SMC N M IM1) (hw : wR = wf) (h0w : 0 ≤ wf) (hG : wf = 0 → EQR GR Gf ∧ (∀ j : Nat, (j < 26 ∨ 49 ≤ j) → Gf j = f j) ∧ GSR (kpF Gf) y) (hx : x ≤ y) (hr : r = aI wR A) (hA : wf = 0 → 0 ≤ A) (hrow : b01 (rwX N gp 12 = dvS wR (rwX M gp 12) GR) = 1) (hg : b01 (RGI r M N (skX M 12)) = 1) : CTS N gp (puI wf f Gf) y := by
  subst hw
  have hg := b01_e hg
  have s := aI_s wR A
  by_cases c : wR = 0
  · have e := dvb hrow c
    have z := hG c
    have q : 0 ≤ r := by have := hA c; omega
    unfold puI; rw [if_pos c]
    exact cts_p hb cp h hp ha h0 h1 (hg.1 q) (by rw [e]; exact z.1) z.2.1 z.2.2 hx
  · have e := dvn hrow c
    have q : r < 0 := by omega
    unfold puI; rw [if_neg c]
    exact cts_k hb cp h hp e ha h0 h1 (hg.2 q) hx
section GG
variable {R f : Nat → Int32} {x y : Int}
theorem gg_vs (hE : EQR R f) (hs : GSR (kpF f) x) (hx : x ≤ y) {b : Int} (hw : wvF f b = 0) : EQR (vsS R b) (vsS f b) ∧ (∀ j : Nat, (j < 26 ∨ 49 ≤ j) → vsS f b j = f j) ∧ GSR (kpF (vsS f b)) y := by
  have h30 : 0 ≤ (f 30).toInt ∧ (f 30).toInt ≤ x := hs.2
  refine ⟨eq_vs hE hw, smq_vs b, gsr_p (prr_vs (prr_q hs hE.2.1) b) ?_⟩
  rw [show vsS f b 30 = f 30 by unfold vsS; rw [uR_n (by decide), uR_n (by decide)]]
  omega
theorem gg_gs (hE : EQR R f) (hs : GSR (kpF f) x) (hx : x + 1 ≤ y ∧ x ≤ 1000000) : (EQR (gsS R) (gsS f) ∧ (∀ j : Nat, (j < 26 ∨ 49 ≤ j) → gsS f j = f j) ∧ GSR (kpF (gsS f)) y) ∧ 0 ≤ addI (R 30).toInt 1 := by
  have h30 : 0 ≤ (f 30).toInt ∧ (f 30).toInt ≤ x := hs.2
  have a := addI_x (f 30).toInt 1
  have e : (sI (addI (f 30).toInt 1)).toInt = (f 30).toInt + 1 := by rw [show addI (f 30).toInt 1 = (f 30).toInt + 1 by omega]; exact sI_t (by omega)
  refine ⟨⟨eq_gs hE, fun j hj => uR_n (by omega), gsr_p (prr_u (prr_q hs hE.2.1) (by decide)) ?_⟩, by rw [(eq_k hE).2.2.2.2.1]; omega⟩
  unfold gsS
  rw [uR_s, e]; omega
theorem gg_hs (hE : EQR R f) (hs : GSR (kpF f) x) (hx : x ≤ y) (k : Int) : EQR (hsS R k) (hsS f k) ∧ (∀ j : Nat, (j < 26 ∨ 49 ≤ j) → hsS f k j = f j) ∧ GSR (kpF (hsS f k)) y := by
  have h30 : 0 ≤ (f 30).toInt ∧ (f 30).toInt ≤ x := hs.2
  refine ⟨eq_hs hE k, fun j hj => uR_n (by omega), gsr_p (prr_u (prr_q hs hE.2.1) (by decide)) ?_⟩
  rw [show hsS f k 30 = f 30 from uR_n (by decide)]
  omega
theorem gg_as (hE : EQR R f) (hs : GSR (kpF f) x) (hx : x ≤ y) {n g : Int} (hw : waF f n g = 0) : EQR (asS R n g) (asS f n g) ∧ (∀ j : Nat, (j < 26 ∨ 49 ≤ j) → asS f n g j = f j) ∧ GSR (kpF (asS f n g)) y := by
  have h30 : 0 ≤ (f 30).toInt ∧ (f 30).toInt ≤ x := hs.2
  have k8 := hE.2.1
  have s := waF_s f n g
  have u : ∀ j : Nat, (j < 26 ∨ j = 30 ∨ 49 ≤ j) → asS f n g j = f j := fun j hj => by
    unfold asS
    rw [uR_n (by omega), uR_n (by omega), uR_n (by omega)]
  refine ⟨eq_as hE n g (by omega), fun j hj => u j (by omega), gsr_p (prr_as (prr_q hs hE.2.1) hw) ?_⟩
  rw [u 30 (by omega)]
  omega
theorem gg_ps (hE : EQR R f) (hs : GSR (kpF f) x) (hx : x ≤ y) {k n : Int} (hw : wpF f k n = 0) : (EQR (psS R k n) (psS f k n) ∧ (∀ j : Nat, (j < 26 ∨ 49 ≤ j) → psS f k n j = f j) ∧ GSR (kpF (psS f k n)) y) ∧ 0 ≤ (R (33 + k).toNat).toInt := by
  have h30 : 0 ≤ (f 30).toInt ∧ (f 30).toInt ≤ x := hs.2
  have k8 := hE.2.1
  have s := wpF_s f k n
  have pr := prr_q hs hE.2.1
  refine ⟨⟨eq_ps hE (by omega) n, fun j hj => uR_n (by omega), gsr_p (prr_p pr (by omega) (by omega)) ?_⟩, ?_⟩
  · rw [show psS f k n 30 = f 30 from uR_n (by omega)]
    omega
  · rw [(hE.1.2.2 k (by omega) (by omega)).1]
    have := pr.2 k (by omega) (by omega)
    omega
theorem smq_ds (f : Nat → Int32) : ∀ n : Nat, SM49 f (dsS f n).1
  | 0 => smq_r f
  | n + 1 => smq_t (smq_ds f n) (smq_dy _)
theorem smk_dn (f : Nat → Int32) : SMG f (dnS f) := ⟨fun j hj => dn_lo (by omega), dn_lo (by decide)⟩
theorem smg_t {f g h : Nat → Int32} (a : SMG f g) (b : SMG g h) : SMG f h := ⟨smq_t a.1 b.1, b.2.trans a.2⟩
theorem smk_se {f : Nat → Int32} (hk : (f 26).toInt ≤ 8) : ∀ n : Nat, SMG f (seF f n).1
  | 0 => ⟨smq_r f, rfl⟩
  | n + 1 => by
    have ih := smk_se hk n
    have d := smk_dn (seF f n).1
    rw [seF]
    split
    · rename_i q
      have s := smk_do q (by rw [d.2, ih.2]; exact hk)
      exact smg_t ih (smg_t d s)
    · exact smg_t ih d
end GG
/-- the seed -/
theorem cts_sd {M N : mm_M} {gp : Nat} {f : Nat → Int32} {x y s : Int} (hb : BPX M) (cp : s_c gp = 6) (h : CTS M gp f x) (hp : PLE M N gp) (ha : b01 (APX N gp) = 1) (h0 : SMC N M IM0) (h1 : SMC N M IM1) (hrow : b01 (rwX N gp 12 = uR (rwX M gp 12) 32 s) = 1) (hg : b01 (RG1 M N (skX M 12)) = 1) (hx : x ≤ y) : CTS N gp (ntF (uR f 32 s) (kpF f)) y := by
  have hE := h.1.1.1
  have hs := h.1.1.2.2.2
  have h30 : 0 ≤ (f 30).toInt ∧ (f 30).toInt ≤ x := hs.2
  refine cts_p hb cp h hp ha h0 h1 (b01_e hg) (by rw [b01_e hrow]; exact eqr_u hE s (by decide)) (fun j hj => uR_n (by omega)) (gsr_p (prr_u (prr_q hs hE.2.1) (by decide)) ?_) hx
  rw [uR_n (by decide)]
  omega
/-- days -/
theorem cts_da {M N : mm_M} {gp : Nat} {f : Nat → Int32} {x y n r : Int} (hb : BPX M) (cp : s_c gp = 6) (h : CTS M gp f x) (hp : PLE M N gp) (ha : b01 (APX N gp) = 1) (h0 : SMC N M IM0) (h1 : SMC N M IM1) (hx : x ≤ y) (hc : (n < 1 ∨ 99 < n) ∧ r = -3 ∧ b01 (rwX N gp 12 = rwX M gp 12) = 1 ∧ b01 (RG0 M N) = 1 ∨ (1 ≤ n ∧ n ≤ 99) ∧ r = (dsS (rwX M gp 12) n.toNat).2 ∧ b01 (rwX N gp 12 = (dsS (rwX M gp 12) n.toNat).1) = 1 ∧ b01 (RG1 M N (skX M 12)) = 1) : CTS N gp (daS f n) y ∧ r = daA f n := by
  have hE := h.1.1.1
  have hs := h.1.1.2.2.2
  have h30 : 0 ≤ (f 30).toInt ∧ (f 30).toInt ≤ x := hs.2
  rcases hc with ⟨c, e, e1, g⟩ | ⟨c, e, e1, g⟩
  · unfold daS daA
    rw [if_neg (by omega), if_neg (by omega)]
    exact ⟨cts_k hb cp h hp (b01_e e1) ha h0 h1 (b01_e g) hx, e⟩
  · have q := eq_ds hE h.1.1.2.2.1 n.toNat
    unfold daS daA
    rw [if_pos c, if_pos c]
    refine ⟨cts_p hb cp h hp ha h0 h1 (b01_e g) (by rw [b01_e e1]; exact q.1.1) (smq_ds f _) (gsr_p (prr_ds (prr_q hs hE.2.1) _) ?_) hx, e.trans q.1.2⟩
    rw [ds_gf]; omega
/-- undone, or not -/
theorem cts_un {M N : mm_M} {gp : Nat} {f : Nat → Int32} {x n r : Int} (hb : BPX M) (cp : s_c gp = 6) (h : CTS M gp f x) (hp : PLE M N gp) (ha : b01 (APX N gp) = 1) (h0 : SMC N M IM0) (h1 : SMC N M IM1) (hc : (1 ≤ n ∧ n ≤ (M.1 18 2).toInt) ∧ r = (M.1 18 2).toInt - n ∧ b01 (RGU M N n 12) = 1 ∨ (n < 1 ∨ (M.1 18 2).toInt < n) ∧ r = -3 ∧ b01 (RG0 M N) = 1 ∧ b01 (rwX N gp 12 = rwX M gp 12) = 1) : CTS N gp (uoS f n) x ∧ r = uoA f n := by
  have r0 := h.2.1.1.1
  unfold uoS uoA
  rcases hc with ⟨c, e, g⟩ | ⟨c, e, g, e1⟩
  · rw [if_pos (by omega), if_pos (by omega)]
    exact ⟨cts_u hb cp h hp ha h0 h1 (b01_e g) (by omega), by omega⟩
  · rw [if_neg (by omega), if_neg (by omega)]
    exact ⟨cts_k hb cp h hp (b01_e e1) ha h0 h1 (b01_e g) (Int.le_refl _), e⟩
/-- a tray's deeds, as far as they are read -/
theorem tl_T {f : Nat → Int32} {T U : Nat → Int} : ∀ n : Nat, (∀ i : Nat, i < n → T i = U i) → tlF f T n = tlF f U n
  | 0, _ => rfl
  | n + 1, h => by
    rw [tlF, tlF, tl_T n (fun i hi => h i (by omega)), h n (by omega)]
/-- the tray is the same on both sides -/
def TYE (M N : mm_M) (t : Int) : Prop := ntX M t = ntA N t ∧ (ntX M t = 0 → tsX M t = (N.1 116 t.toNat).toInt ∧ (0 ≤ tsX M t ∧ tsX M t ≤ 40) ∧ ∀ i : Nat, (i : Int) < tsX M t → tyX M t i = tyM N t i)
theorem cts_pe {M N K : mm_M} {gp : Nat} {f : Nat → Int32} {x y t r : Int} (hb : BPX M) (cp : s_c gp = 6) (h : CTS M gp f x) (hp : PLE M N gp) (ha : b01 (APX N gp) = 1) (h0 : SMC N M IM0) (h1 : SMC N M IM1) (hT : TYE M K t) (hK : K.1 99 = f) (hr : r = peX M (rwX M gp 12) t) (hrow : b01 (rwX N gp 12 = peR M (rwX M gp 12) t) = 1) (hg : b01 (RGP r M N (skX M 12)) = 1) (hx : x + 40 ≤ y ∧ x ≤ 1000000) : CTS N gp (peS K t) y ∧ r = peA K t := by
  have hE := h.1.1.1
  have hs := h.1.1.2.2.2
  have h30 : 0 ≤ (f 30).toInt ∧ (f 30).toInt ≤ x := hs.2
  have hrow := b01_e hrow
  have hg := b01_e hg
  obtain ⟨e1, e2⟩ := hT
  unfold peX at hr
  unfold peR at hrow
  unfold peS peA
  rw [← e1]
  have n0 : ntX M t ≤ 0 := by have := ntX_s M t; omega
  by_cases c : ntX M t = 0
  · obtain ⟨z1, z2, z3⟩ := e2 c
    rw [if_pos c] at hr hrow
    rw [if_pos c, if_pos c]
    have eT : tqF K t = tlF f (tyX M t) (tsX M t).toNat := by
      unfold tqF
      rw [hK, ← z1]
      exact tl_T _ (fun i hi => (z3 i (by omega)).symm)
    have q := eq_tl hE h.1.1.2.2.1 (tyX M t) (tsX M t).toNat
    rw [eT, hK]
    unfold tqX at hr hrow
    have gf := tl_gf (f := f) (T := tyX M t) (by omega) (by omega) (tsX M t).toNat (by omega)
    have er : r = (tlF f (tyX M t) (tsX M t).toNat).2.2 := hr.trans (congrArg Prod.snd q.1.2)
    have gs : GSR (kpF (tlF f (tyX M t) (tsX M t).toNat).1) y := gsr_p (prr_tl (prr_q hs hE.2.1) _) (by omega)
    have sm := (smk_tl (T := tyX M t) hE.2.1.2 (tsX M t).toNat).1
    by_cases d : 0 < (tlF f (tyX M t) (tsX M t).toNat).2.2
    · rw [if_pos d]
      exact ⟨cts_p hb cp h hp ha h0 h1 (hg.1 (by omega)) (by rw [hrow]; exact q.1.1) sm gs (by omega), er⟩
    · rw [if_neg d]
      exact ⟨cts_n hb cp h hp ha h0 h1 (hg.2 (by omega)) (by rw [hrow]; exact q.1.1) sm gs (by omega), er⟩
  · rw [if_neg c] at hr hrow
    rw [if_neg c, if_neg c, hK]
    exact ⟨cts_k hb cp h hp hrow ha h0 h1 (hg.2 (by omega)) (by omega), hr⟩
/-- judged -/
theorem jg_e {M K : mm_M} {R f : Nat → Int32} {t w : Int} (hE : EQR R f) (ho : ODQ f) (hT : TYE M K t) (hK : K.1 99 = f) : jgX M R t w = jgA K t w := by
  obtain ⟨e1, e2⟩ := hT
  unfold jgX jgA
  rw [← e1]
  by_cases c : w < 0 ∨ 3 < w
  · rw [if_pos c, if_pos c]
  · rw [if_neg c, if_neg c]
    by_cases d : ntX M t = 0
    · obtain ⟨z1, z2, z3⟩ := e2 d
      rw [if_pos d, if_pos d]
      have eT : tqF K t = tlF f (tyX M t) (tsX M t).toNat := by
        unfold tqF
        rw [hK, ← z1]
        exact tl_T _ (fun i hi => (z3 i (by omega)).symm)
      have q := eq_tl hE ho (tyX M t) (tsX M t).toNat
      have k := eq_k q.1.1
      rw [eT]
      unfold tqX juA
      rw [q.1.2, k.2.1, k.2.2.2.1]
    · rw [if_neg d, if_neg d]
/-- a season -/
theorem cts_se {M N : mm_M} {gp : Nat} {f : Nat → Int32} {x y s n r : Int} (hb : BPX M) (cp : s_c gp = 6) (h : CTS M gp f x) (hp : PLE M N gp) (ha : b01 (APX N gp) = 1) (h0 : SMC N M IM0) (h1 : SMC N M IM1) (hr : r = sqX (rwX M gp 12) s n) (hrow : b01 (rwX N gp 12 = sqR (rwX M gp 12) s n) = 1) (hg : b01 (RGP r M N (skX M 12)) = 1) (hx : x + 40 ≤ y ∧ x ≤ 1000000) : CTS N gp (sqS f s n) y ∧ r = sqA f s n := by
  have hE := h.1.1.1
  have hs := h.1.1.2.2.2
  have h30 : 0 ≤ (f 30).toInt ∧ (f 30).toInt ≤ x := hs.2
  have hrow := b01_e hrow
  have hg := b01_e hg
  have hU : EQR (uR (rwX M gp 12) 32 s) (uR f 32 s) := eqr_u hE s (by decide)
  have q := eq_se hU (odq_u h.1.1.2.2.1 (by decide) hE.2.2.1.2) n.toNat
  have u30 : (uR f 32 s 30) = f 30 := uR_n (by decide)
  have u26 : (uR f 32 s 26) = f 26 := uR_n (by decide)
  unfold sqX at hr
  unfold sqR at hrow
  unfold sqS sqA
  by_cases c : 1 ≤ n ∧ n ≤ 40
  · rw [if_pos c] at hr
    rw [if_pos c, if_pos c]
    have gf := se_gf (f := uR f 32 s) (by rw [u30]; omega) (by rw [u30]; omega) n.toNat (by omega)
    rw [u30] at gf
    have er : r = (seF (uR f 32 s) n.toNat).2 := hr.trans q.1.2
    have sm : SM49 f (seF (uR f 32 s) n.toNat).1 := smq_t (smq_u (smq_r f) (by decide)) (smk_se (f := uR f 32 s) (by rw [u26]; exact hE.2.1.2) n.toNat).1
    by_cases d : 0 < (seF (uR f 32 s) n.toNat).2
    · rw [if_pos ⟨c.1, c.2, by rw [q.1.2]; exact d⟩] at hrow
      rw [if_pos d]
      exact ⟨cts_p hb cp h hp ha h0 h1 (hg.1 (by omega)) (by rw [hrow]; exact q.1.1) sm (gsr_p (prr_se (prr_u (prr_q hs hE.2.1) (by decide)) _) (by omega)) (by omega), er⟩
    · rw [if_neg (fun z => d (by rw [← q.1.2]; exact z.2.2))] at hrow
      rw [if_neg d, ia_f sm]
      exact ⟨cts_k hb cp h hp hrow ha h0 h1 (hg.2 (by omega)) (by omega), er⟩
  · rw [if_neg c] at hr
    rw [if_neg (fun z => c ⟨z.1, z.2.1⟩)] at hrow
    rw [if_neg c, if_neg c]
    exact ⟨cts_k hb cp h hp hrow ha h0 h1 (hg.2 (by omega)) (by omega), hr⟩
