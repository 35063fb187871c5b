/-! THE MINDS, TUNED: to plan p and the row f -/
def seH (f : Nat → Int32) (h : Int32) : Nat → Int32 := fun j => if j = 28 then h else f j
theorem seH_s (f : Nat → Int32) : seH f (f 28) = f := by
  funext j
  unfold seH
  by_cases q : j = 28
  · rw [if_pos q, q]
  · rw [if_neg q]
theorem cl_sh (M : mm_M) (p v : Nat) (h : Int32) : clX M p v h = seH (rwX M p v) h := by
  funext j
  unfold seH
  by_cases q : j = 28
  · rw [if_pos q, q]; exact (cl_f M p v h).2.2.1
  · rw [if_neg q]
    unfold rwX
    by_cases q1 : 26 ≤ j ∧ j < 33
    · have a := cl_f M p v h
      have b := cl_f M p v (M.1 v 4)
      rcases (show j = 26 ∨ j = 27 ∨ j = 29 ∨ j = 30 ∨ j = 31 ∨ j = 32 by omega) with rfl | rfl | rfl | rfl | rfl | rfl
      · rw [a.1, b.1]
      · rw [a.2.1, b.2.1]
      · rw [a.2.2.2.1, b.2.2.2.1]
      · rw [a.2.2.2.2.1, b.2.2.2.2.1]
      · rw [a.2.2.2.2.2.1, b.2.2.2.2.2.1]
      · rw [a.2.2.2.2.2.2, b.2.2.2.2.2.2]
    · by_cases q2 : j < 26 ∨ 49 ≤ j
      · exact cl_w M p v v _ _ q2
      · by_cases q3 : j < 41
        · rw [cl_33 M p v _ (by omega), cl_33 M p v _ (by omega)]
        · rw [cl_41 M p v _ (by omega), cl_41 M p v _ (by omega)]
theorem tu_q {M N : mm_M} {p v : Nat} (h : Int32) (hp : PLE M N p) (ht : b01 (TUP N M v (M.1 v 0).toInt) = 1) (h8 : (M.1 v 0).toInt ≤ 8) (h4 : 0 ≤ (M.1 p 7).toInt) (h5 : 0 ≤ (M.1 p 9).toInt) : EQL (mdX N p h) (clX M p v h) 0 ∧ EQL (mdX N p h) (clX M p v h) 1 ∧ mdX N p h 28 = clX M p v h 28 ∧ (∀ b : Int, 0 ≤ b → b < 6 → EQB (mdX N p h) (clX M p v h) b) ∧ ∀ k : Int, 0 ≤ k → k < (M.1 v 0).toInt → EQK (mdX N p h) (clX M p v h) k := by
  have lo : ∀ j, j < 26 → mdX N p h j = clX M p v h j := fun j hj => md_cl hp h (Or.inl hj)
  have hi : ∀ j, 281 ≤ j → mdX N p h j = clX M p v h j := fun j hj => md_cl hp h (Or.inr (Or.inr hj))
  have el : ∀ l, l < 2 → EQL (mdX N p h) (clX M p v h) l := fun l hl => by
    refine ⟨by rw [lo (2 + l) (by omega)], fun _ => ⟨lo _ (by omega), lo _ (by omega), fun i _ => hi _ ?_⟩⟩
    rcases (show l = 0 ∨ l = 1 by omega) with rfl | rfl
    · have : (clX M p v h (4 + 0)).toInt = (M.1 p 7).toInt := rfl
      omega
    · have : (clX M p v h (4 + 1)).toInt = (M.1 p 9).toInt := rfl
      omega
  refine ⟨el 0 (by decide), el 1 (by decide), md_cl hp h (Or.inr (Or.inl rfl)), fun b h0 h1 => ⟨lo _ (by omega), lo _ (by omega), lo _ (by omega)⟩, fun k h0 h1 => ?_⟩
  have q := b01_e ht k h0 h1
  have c := cl_k M p v h (k := k) (by omega)
  exact ⟨by rw [md_33 N p h (by omega), c.1, q.1], by rw [md_41 N p h (by omega), c.2.1, q.2]⟩
def TN (M : mm_M) (p : Nat) (f : Nat → Int32) : Prop := (M.2.2 81 5 = p ∧ b01 (LWX M p 7 8) = 1 ∧ b01 (LWX M p 9 10) = 1 ∧ b01 (BTX M p) = 1 ∧ b01 (PRX M) = 1 ∧ b01 (APX M p) = 1) ∧ ((M.1 81 6).toInt = (f 26).toInt ∧ 0 ≤ (f 26).toInt ∧ (f 26).toInt ≤ 8) ∧ (∀ h b s, 0 ≤ b → b < 6 → boF (mdX M p h) b s = boF (seH f h) b s) ∧ (∀ b k s, 0 ≤ b → b < 6 → 0 ≤ k → k < (f 26).toInt → wtF (mdX M p 0) b k s = wtF f b k s) ∧ ∀ h b k s, 0 ≤ b → b < 6 → 0 ≤ k → k < (f 26).toInt → mbF (mdX M p h) b k s = mbF (seH f h) b k s
/-- behind tune() -/
theorem tn_0 {M N : mm_M} {p v : Nat} (hp : PLE M N p) (h5 : N.2.2 81 5 = p) (ha : b01 (APX N p) = 1) (hl : b01 (LAW M p) = 1) (hr : b01 (PRR (rwX M p v)) = 1) (h6 : (N.1 81 6).toInt = (M.1 v 0).toInt) (ht : b01 (TUP N M v (M.1 v 0).toInt) = 1) (b7 : 0 ≤ (M.1 p 7).toInt) (b9 : 0 ≤ (M.1 p 9).toInt) : b01 (TN N p (rwX M p v)) = 1 := by
  have k26 : (rwX M p v 26).toInt = (M.1 v 0).toInt := rfl
  have k8 := (b01_e hr).1
  rw [k26] at k8
  have L := law_e (law_p hp b7 b9 hl)
  have e9 : N.1 p 9 = M.1 p 9 := congrFun hp.1 9
  have bx := btx_w (M := N) (p := p) (by rw [e9]; exact b9) L.2.1 L.2.2.1
  have px := prx_t (M := M) (N := N) (v := v) (c := s_p0 v 1) (n := (M.1 v 0).toInt) rfl h6 ht (prr_s hr)
  refine b01_i ⟨⟨h5, L.1, L.2.1, bx, px, ha⟩, ⟨by rw [k26]; exact h6, by rw [k26]; exact k8.1, by rw [k26]; exact k8.2⟩, fun h b s h0 h1 => ?_, fun b k s h0 h1 g0 g1 => ?_, fun h b k s h0 h1 g0 g1 => ?_⟩
  · rw [← cl_sh]; exact bo_tu hp ⟨h6, k8.1, k8.2⟩ ht ⟨h0, h1⟩ b7 b9
  · obtain ⟨e0, e1, e28, eb, ek⟩ := tu_q (M.1 v 4) hp ht k8.2 b7 b9
    obtain ⟨d0, d1, d28, db, dk⟩ := tu_q 0 hp ht k8.2 b7 b9
    have w1 := wt_c d0 (db b h0 h1) (dk k g0 (by omega)) s
    rw [w1, cl_sh]
    show wtF (seH (rwX M p v) 0) b k s = wtF (rwX M p v) b k s
    have z : ∀ j, j ≠ 28 → seH (rwX M p v) 0 j = rwX M p v j := fun j hj => by unfold seH; rw [if_neg hj]
    refine wt_c ⟨by rw [z _ (by decide)], fun _ => ⟨z _ (by decide), z _ (by decide), fun i _ => z _ ?_⟩⟩ ⟨z _ (by omega), z _ (by omega), z _ (by omega)⟩ ⟨z _ (by omega), z _ (by omega)⟩ s
    have : (rwX M p v (4 + 0)).toInt = (M.1 p 7).toInt := rfl
    omega
  · obtain ⟨d0, d1, d28, db, dk⟩ := tu_q h hp ht k8.2 b7 b9
    rw [← cl_sh]
    exact mb_c d28 d1 (db b h0 h1) (dk k g0 (by omega)) s
theorem tn_f {S : List Nat} {M N : mm_M} {p : Nat} {f : Nat → Int32} (h : b01 (TN M p f) = 1) (hf : FX S M N) (hS : ∀ i ∈ S, i = 82 ∨ i = 85 ∨ i = 86) (cp : s_c p = 6) (ha : b01 (APX N p) = 1) : b01 (TN N p f) = 1 := by
  obtain ⟨⟨a1, a2, a3, a4, a5, a6⟩, b, c, d, e⟩ := b01_e h
  have md : ∀ g, mdX N p g = mdX M p g := fun g => md_fr hf hS cp g
  have ne : ∀ i, ¬ (i = 82 ∨ i = 85 ∨ i = 86) → i ∉ S := fun i hi q => hi (hS i q)
  have np : N.1 p = M.1 p := hf.cell (ne p (fun q => by
    have c82 : s_c 82 = 33 := rfl
    have c85 : s_c 85 = 36 := rfl
    have c86 : s_c 86 = 37 := rfl
    rcases q with q | q | q
    · rw [q, c82] at cp; cases cp
    · rw [q, c85] at cp; cases cp
    · rw [q, c86] at cp; cases cp))
  have n81 : N.1 81 = M.1 81 := hf.cell (ne 81 (by decide))
  have n83 : N.1 83 = M.1 83 := hf.cell (ne 83 (by decide))
  refine b01_i ⟨⟨(hf.2.1 81 5 (ne 81 (by decide))).trans a1, lwx_fr hf hS cp a2, lwx_fr hf hS cp a3, ?_, ?_, ha⟩, by rw [n81]; exact b, fun g b s => by rw [md]; exact c g b s, fun b k s => by rw [md]; exact d b k s, fun g b k s => by rw [md]; exact e g b k s⟩
  · refine b01_i ?_
    unfold BTX
    rw [md, np]; exact b01_e a4
  · refine b01_i ?_
    unfold PRX
    rw [n81, n83]; exact b01_e a5
theorem tn_e {M : mm_M} {p : Nat} {f : Nat → Int32} (h : b01 (TN M p f) = 1) : (b01 (LWX M p 7 8) = 1 ∧ b01 (LWX M p 9 10) = 1 ∧ b01 (BTX M p) = 1 ∧ b01 (PRX M) = 1 ∧ b01 (APX M p) = 1) ∧ (M.1 81 6).toInt = (f 26).toInt ∧ 0 ≤ (f 26).toInt ∧ (f 26).toInt ≤ 8 := by
  have h := b01_e h
  exact ⟨h.1.2, h.2.1⟩
theorem tn_b {M : mm_M} {p : Nat} {f : Nat → Int32} {b s hx : Int} (h : b01 (TN M p f) = 1) (hb : 0 ≤ b ∧ b < 6) (hh : hx = (f 28).toInt) (hs : s = (f 27).toInt) : boF (mdX M p (sI hx)) b s = bnF f b := by
  rw [(b01_e h).2.2.1 _ b s hb.1 hb.2, hh, hs, sI_o, seH_s]; rfl
theorem tn_s {M : mm_M} {p : Nat} {f : Nat → Int32} {b s hx : Int} (h : b01 (TN M p f) = 1) (hb : 0 ≤ b ∧ b < 6) : boF (mdX M p (sI hx)) b s = boF (seH f (sI hx)) b s := (b01_e h).2.2.1 _ b s hb.1 hb.2
/-! what a buyer may buy -/
def mwG (f : Nat → Int32) (b s : Int) : Nat → Int
  | 0 => 0
  | n + 1 => orI (mwG f b s n) (if mbF f b (n : Int) s = 0 then 0 else pw2 (n : Int))
theorem mw_g (f : Nat → Int32) (b : Int) : ∀ n, mwG f b (f 27).toInt n = mwF f b n
  | 0 => rfl
  | n + 1 => by rw [mwG, mwF, mw_g f b n]
theorem mwG_c {f g : Nat → Int32} {b s : Int} : ∀ n : Nat, (∀ k : Int, 0 ≤ k → k < n → mbF g b k s = mbF f b k s) → mwG g b s n = mwG f b s n
  | 0, _ => rfl
  | n + 1, h => by rw [mwG, mwG, mwG_c n (fun k h0 h1 => h k h0 (by omega)), h n (by omega) (by omega)]
theorem or_0 (a : Int) (h : -2147483648 ≤ a ∧ a ≤ 2147483647) : orI a 0 = a := by
  unfold orI
  rw [show sI a ||| sI 0 = sI a from Int32.or_zero]; exact sI_t h
theorem mwG_b (f : Nat → Int32) (b s : Int) : ∀ n : Nat, n ≤ 8 → 0 ≤ mwG f b s n ∧ mwG f b s n ≤ 255
  | 0, _ => by show (0 : Int) ≤ 0 ∧ (0 : Int) ≤ 255; decide
  | n + 1, h => by
    have ih := mwG_b f b s n (by omega)
    have p1 := pw2_p (n : Int)
    have p2 : pw2 (n : Int) ≤ 128 := Int.le_trans (pw2_m (show (n : Int) ≤ 7 by omega)) (by decide)
    rw [mwG]
    have w : ∀ x : Int, 0 ≤ x ∧ x ≤ 255 → 0 ≤ orI (mwG f b s n) x ∧ orI (mwG f b s n) x ≤ 255 := fun x hx => by
      have q := sb_or (x := sI (mwG f b s n)) (y := sI x) 8 (by decide) (by rw [sI_t (by omega)]; exact ⟨ih.1, by omega⟩) (by rw [sI_t (by omega)]; exact ⟨hx.1, by omega⟩)
      unfold orI
      exact ⟨q.1, by have := q.2; omega⟩
    split
    · exact w 0 (by decide)
    · exact w _ ⟨by omega, by omega⟩
theorem ltO_h (M : mm_M) (p : Nat) (h g : Int32) {b k : Int} (hb : 0 ≤ b ∧ b < 6) (hk : 0 ≤ k ∧ k < 8) (h5 : 0 ≤ (mdX M p g 5).toInt) (o w : Int) : ltO (mdX M p h) b k o w = ltO (mdX M p g) b k o w := by
  unfold ltO
  rw [rkO_h M p h g (l := 1) (by decide) hb hk h5, md_h M p h g (j := 3) (by decide), md_h M p h g (j := (8 + b).toNat) (by omega), md_h M p h g (j := (33 + k).toNat) (by omega)]
/-- the class's question is the reference's -/
theorem mb_X (M : mm_M) (p : Nat) {b k s h : Int} (hb : 0 ≤ b ∧ b < 6) (hk : 0 ≤ k ∧ k < 8) (hh : 0 ≤ h ∧ h ≤ 255) (ht : b01 (BTX M p) = 1) (h5 : 0 ≤ (M.1 p 9).toInt) : ((andI (shrI h k) 1 = 0 ∧ ltO (mdX M p 0) b k (bsF s (8 : Int).toNat) (andI (shrI s k) 1) = 1) ∧ mbF (mdX M p (sI h)) b k s = 1) ∨ (¬ (andI (shrI h k) 1 = 0 ∧ ltO (mdX M p 0) b k (bsF s (8 : Int).toNat) (andI (shrI s k) 1) = 1) ∧ mbF (mdX M p (sI h)) b k s = 0) := by
  have m28 : (mdX M p (sI h) 28).toInt = h := by rw [(md_lo M p (sI h)).2.2.2.2.2.2.2, sI_t (by omega)]
  have hbit : (mdX M p (sI h) 3).toInt = 0 ∨ bitQ (rkF (mdX M p (sI h)) 1 b k s) := by
    rw [rkO_e, rkO_h M p (sI h) 0 (l := 1) (by decide) hb hk h5]
    rcases b01_e ht b k (bsF s (8 : Int).toNat) (andI (shrI s k) 1) hb hk with q | q
    · left; rw [(md_lo M p (sI h)).2.1]; exact i32_ite.mpr q
    · exact Or.inr q
  have e : (iiF h k = 0) ↔ (andI (shrI h k) 1 = 0) := by have := ii_e hh hk; omega
  rw [← ltO_h M p (sI h) 0 hb hk h5]
  unfold ltO
  rw [← rkO_e]
  have ms := mbF_s (mdX M p (sI h)) b k s
  rw [m28] at ms
  by_cases c : (mdX M p (sI h) (33 + k).toNat).toInt ≤ (mdX M p (sI h) (8 + b).toNat).toInt ∧ ((mdX M p (sI h) 3).toInt = 0 ∨ ¬ rkF (mdX M p (sI h)) 1 b k s = 0)
  · rw [if_pos c]
    rcases ms with ⟨m1, m2⟩ | ⟨m1, m2⟩
    · exact Or.inl ⟨⟨e.mp m1.1, rfl⟩, m2⟩
    · refine Or.inr ⟨fun z => m1 ⟨e.mpr z.1, c.1, ?_⟩, m2⟩
      rcases c.2 with q | q
      · exact Or.inl q
      · rcases hbit with y | y
        · exact Or.inl y
        · rcases y with y | y
          · exact absurd y q
          · exact Or.inr y
  · rw [if_neg c]
    rcases ms with ⟨m1, m2⟩ | ⟨m1, m2⟩
    · exfalso
      refine c ⟨m1.2.1, ?_⟩
      rcases m1.2.2 with q | q
      · exact Or.inl q
      · exact Or.inr (by omega)
    · exact Or.inr ⟨fun z => by have := z.2; omega, m2⟩
theorem mwG_s (f : Nat → Int32) (b s : Int) {x x' a : Int} (h : 0 ≤ x ∧ x < 8) (hx : x' = x + 1) (ha : a = mwG f b s x.toNat) : (¬ mbF f b x s = 0 ∧ mwG f b s x'.toNat = orI a (pw2 x)) ∨ (mbF f b x s = 0 ∧ mwG f b s x'.toNat = a) := by
  subst hx
  subst ha
  have b := mwG_b f b s x.toNat (by omega)
  rw [show (x + 1).toNat = x.toNat + 1 by omega, mwG, show ((x.toNat : Nat) : Int) = x by omega]
  split
  · exact Or.inr ⟨by assumption, or_0 _ (by omega)⟩
  · exact Or.inl ⟨by assumption, rfl⟩
theorem wbF_b (f : Nat → Int32) (k : Int) : ∀ n : Nat, n ≤ 6 → 0 ≤ wbF f k n ∧ wbF f k n ≤ 63
  | 0, _ => by show (0 : Int) ≤ 0 ∧ (0 : Int) ≤ 63; decide
  | n + 1, h => by
    have ih := wbF_b f k n (by omega)
    have p1 := pw2_p (n : Int)
    have p2 : pw2 (n : Int) ≤ 32 := Int.le_trans (pw2_m (show (n : Int) ≤ 5 by omega)) (by decide)
    rw [wbF]
    have w : ∀ x : Int, 0 ≤ x ∧ x ≤ 63 → 0 ≤ orI (wbF f k n) x ∧ orI (wbF f k n) x ≤ 63 := fun x hx => by
      have q := sb_or (x := sI (wbF f k n)) (y := sI x) 6 (by decide) (by rw [sI_t (by omega)]; exact ⟨ih.1, by omega⟩) (by rw [sI_t (by omega)]; exact ⟨hx.1, by omega⟩)
      unfold orI
      exact ⟨q.1, by have := q.2; omega⟩
    split
    · exact w _ ⟨by omega, by omega⟩
    · exact w 0 (by decide)
theorem wb_x (f : Nat → Int32) (k : Int) {x x' a : Int} (h : 0 ≤ x ∧ x < 6) (hx : x' = x + 1) (ha : a = wbF f k x.toNat) : (bnF f x = k ∧ wbF f k x'.toNat = orI a (pw2 x)) ∨ (¬ bnF f x = k ∧ wbF f k x'.toNat = a) := by
  have b := wbF_b f k x.toNat (by omega)
  rcases wb_s f k h.1 hx ha with q | q
  · exact Or.inl q
  · exact Or.inr ⟨q.1, q.2.trans (or_0 a (by omega))⟩
theorem tn_m {M : mm_M} {p : Nat} {f : Nat → Int32} {b s hx : Int} (h : b01 (TN M p f) = 1) (hb : 0 ≤ b ∧ b < 6) (hh : hx = (f 28).toInt) (hs : s = (f 27).toInt) : mwG (mdX M p (sI hx)) b s (M.1 81 6).toInt.toNat = mwF f b (f 26).toInt.toNat := by
  have t := b01_e h
  rw [t.2.1.1, ← mw_g, hs]
  refine mwG_c _ (fun k h0 h1 => ?_)
  rw [t.2.2.2.2 _ b k _ hb.1 hb.2 h0 (by omega), hh, sI_o, seH_s]
theorem tn_w {M : mm_M} {p : Nat} {f : Nat → Int32} {b k s : Int} (h : b01 (TN M p f) = 1) (hb : 0 ≤ b ∧ b < 6) (hk : 0 ≤ k ∧ k < (f 26).toInt) (hs : s = (f 27).toInt) : wtO (mdX M p 0) b k (bsF s (8 : Int).toNat) (andI (shrI s k) 1) = wtF f b k (f 27).toInt := by
  rw [← hs, ← (b01_e h).2.2.2.1 b k s hb.1 hb.2 hk.1 hk.2]
  unfold wtF wtO
  rw [rkO_e]
theorem FX.cellJ {S : List Nat} {M N : mm_M} (h : FX S M N) {i : Nat} (hi : i ∉ S) : N.2.1 i = M.2.1 i := funext fun k => h.2.2 i k hi
theorem try_c : ∀ q, q < 4 → s_c (s_p0 50 q) = 9 ∧ s_c (s_p0 (s_p0 50 q) 0) = 29 := by decide
theorem tyX_f {S : List Nat} {M N : mm_M} (h : FX S M N) (hS : ∀ x ∈ S, s_c x ≠ 9 ∧ s_c x ≠ 29) {t : Int} (ht : 0 ≤ t ∧ t ≤ 3) : tsX N t = tsX M t ∧ ∀ i, tyX N t i = tyX M t i := by
  have c := try_c t.toNat (by omega)
  refine ⟨?_, fun i => ?_⟩
  · unfold tsX; rw [h.cell (fun q => (hS _ q).1 c.1)]
  · unfold tyX; rw [h.cellJ (fun q => (hS _ q).2 c.2)]
def RGP (a : Int) (M N : mm_M) (r : Nat → Int32) : Prop := (0 < a → RG1 M N r) ∧ (a ≤ 0 → RG0 M N)
theorem rgp_y {a : Int} {M N : mm_M} {r : Nat → Int32} (h0 : 0 < a) (h : b01 (RG1 M N r) = 1) : b01 (RGP a M N r) = 1 := b01_i ⟨fun _ => b01_e h, fun q => by omega⟩
theorem rgp_n {a : Int} {M N : mm_M} {r : Nat → Int32} (h0 : a ≤ 0) (h : b01 (RG0 M N) = 1) : b01 (RGP a M N r) = 1 := b01_i ⟨fun q => by omega, fun _ => b01_e h⟩
/-- the deeds of a tray in the class: how many were done, or why it can't be read -/
noncomputable def peX (M : mm_M) (f : Nat → Int32) (t : Int) : Int := if ntX M t = 0 then (tqX M f t).2.2 else ntX M t
noncomputable def peR (M : mm_M) (f : Nat → Int32) (t : Int) : Nat → Int32 := if ntX M t = 0 then (tqX M f t).1 else f
theorem pex_y {M : mm_M} {f N : Nat → Int32} {t a : Int} (h : ntX M t = 0) (ha : a = (tqX M f t).2.2) (e : b01 (N = (tqX M f t).1) = 1) : a = peX M f t ∧ b01 (N = peR M f t) = 1 := by unfold peX peR; rw [if_pos h, if_pos h]; exact ⟨ha, e⟩
theorem pex_n {M : mm_M} {f N : Nat → Int32} {t a : Int} (h : ¬ ntX M t = 0) (ha : a = ntX M t) (e : N = f) : a = peX M f t ∧ b01 (N = peR M f t) = 1 := by unfold peX peR; rw [if_neg h, if_neg h]; exact ⟨ha, b01_i e⟩
noncomputable def jgX (M : mm_M) (f : Nat → Int32) (t w : Int) : Int := if w < 0 ∨ 3 < w then -2 else if ntX M t = 0 then juA (tqX M f t) w else ntX M t
theorem jgX_s (M : mm_M) (f : Nat → Int32) (t w : Int) : ((w < 0 ∨ 3 < w) ∧ jgX M f t w = -2) ∨ ((0 ≤ w ∧ w ≤ 3) ∧ ntX M t = 0 ∧ jgX M f t w = juA (tqX M f t) w) ∨ ((0 ≤ w ∧ w ≤ 3) ∧ ¬ ntX M t = 0 ∧ jgX M f t w = ntX M t) := by
  unfold jgX; repeat' split
  all_goals omega
/-- where a tray's loop ended -/
theorem tq_e {M : mm_M} {f g : Nat → Int32} {t x : Int} (h : b01 (g = (tlF f (tyX M t) x.toNat).1) = 1) (q : 0 ≤ x ∧ x ≤ tsX M t) (hx : x = tsX M t ∨ ¬ (tlF f (tyX M t) x.toNat).2.1 = 0) : b01 (g = (tqX M f t).1) = 1 ∧ (tqX M f t).2.1 = (tlF f (tyX M t) x.toNat).2.1 ∧ (tqX M f t).2.2 = (tlF f (tyX M t) x.toNat).2.2 := by
  have e : tlF f (tyX M t) (tsX M t).toNat = tlF f (tyX M t) x.toNat := by
    rcases hx with r | r
    · rw [r]
    · exact tl_xe r q
  unfold tqX
  rw [e]
  exact ⟨h, rfl, rfl⟩
noncomputable def sqX (f : Nat → Int32) (s n : Int) : Int := if 1 ≤ n ∧ n ≤ 40 then (seF (uR f 32 s) n.toNat).2 else -3
noncomputable def sqR (f : Nat → Int32) (s n : Int) : Nat → Int32 := if 1 ≤ n ∧ n ≤ 40 ∧ 0 < (seF (uR f 32 s) n.toNat).2 then (seF (uR f 32 s) n.toNat).1 else f
theorem sqx_y {f N : Nat → Int32} {s n a : Int} (h : 1 ≤ n ∧ n ≤ 40) (ha : a = (seF (uR f 32 s) n.toNat).2) (h0 : 0 < a) (e : b01 (N = (seF (uR f 32 s) n.toNat).1) = 1) : a = sqX f s n ∧ b01 (N = sqR f s n) = 1 := by
  unfold sqX sqR; rw [if_pos h, if_pos ⟨h.1, h.2, by omega⟩]; exact ⟨ha, e⟩
theorem sqx_z {f N : Nat → Int32} {s n a : Int} (h : 1 ≤ n ∧ n ≤ 40) (ha : a = (seF (uR f 32 s) n.toNat).2) (h0 : ¬ 0 < a) (e : N = f) : a = sqX f s n ∧ b01 (N = sqR f s n) = 1 := by
  unfold sqX sqR; rw [if_pos h, if_neg (fun q => by omega)]; exact ⟨ha, b01_i e⟩
theorem sqx_n {f N : Nat → Int32} {s n : Int} (h : ¬ (1 ≤ n ∧ n ≤ 40)) (e : N = f) : sqX f s n = -3 ∧ b01 (N = sqR f s n) = 1 := by
  unfold sqX sqR; rw [if_neg h, if_neg (fun q => h ⟨q.1, q.2.1⟩)]; exact ⟨rfl, b01_i e⟩
