/-! THE CLASS'S SHOP, as told: its laws, its prices, its row -/
theorem i32_e {a b : Int32} (h : a.toInt = b.toInt) : a = b := Int32.toInt_inj.mp h
theorem va_l {L : List Int} (h : VAQ L) : 1 ≤ L.length := by
  cases L with
  | nil =>
    have := (h (fun _ => 0) (0, fun _ => 0) (by decide)).1
    exact absurd (show (0 : Int) = 0 + 1 from this) (by decide)
  | cons c L => simp
/-- the codes of a told law stand in the class's row -/
theorem ag_code {M : mm_M} {p v : Nat} {q : Int × Int × Int × Int} {T : Nat → Int} (h : AGP M p v q T) (g : Int32) {x : Int} (h0 : 0 ≤ x) (h1 : x < T 280) : (mdX M p g (281 + x).toNat).toInt = T (281 + x).toNat := by
  rw [md_c M p g h0, h.1.2.2.2.2 x.toNat (by omega), show 281 + x.toNat = (281 + x).toNat by omega]
theorem ag_list {M : mm_M} {p v : Nat} {q : Int × Int × Int × Int} {T : Nat → Int} (h : AGP M p v q T) (g : Int32) {a : Int} {L : List Int} (h0 : 0 ≤ a) (h1 : a + (L.length : Int) ≤ T 280) (hL : ∀ i : Nat, i < L.length → T (281 + a + (i : Int)).toNat = L.getD i 0) : ∀ i : Nat, i < L.length → (mdX M p g (281 + a + (i : Int)).toNat).toInt = L.getD i 0 := fun i hi => by
  rw [show 281 + a + (i : Int) = 281 + (a + (i : Int)) by omega, ag_code h g (by omega) (by omega), show 281 + (a + (i : Int)) = 281 + a + (i : Int) by omega]
  exact hL i hi
theorem lw_ag {M : mm_M} {p v : Nat} {q : Int × Int × Int × Int} {T : Nat → Int} (h : AGP M p v q T) {l i j : Nat} {x y : Int} (hi : (M.1 p i).toInt = x) (hj : (M.1 p j).toInt = y) (w : (x = y ∧ T (2 + l) = 0) ∨ (T (2 + l) = 1 ∧ x = T (4 + l) ∧ y = T (4 + l) + T (6 + l))) (r : WQ l T) : LWX M p i j ∧ (l = 1 → x = y ∨ ∀ W : Nat → Int, bitQ ((rkS (mdX M p 0) W (281 + x) (y - x).toNat).2 0)) := by
  unfold LWX
  rw [hi, hj]
  rcases w with ⟨w1, w2⟩ | ⟨w1, w2, w3⟩
  · exact ⟨Or.inl w1, fun _ => Or.inl w1⟩
  · rcases r with r | ⟨_, r2, r3, L, g, r4, r5⟩
    · omega
    · have k := ag_list h 0 (a := x) (L := L) (by omega) (by omega) (by rw [w2]; exact r5)
      have e : y - x = (L.length : Int) := by omega
      rw [e]
      exact ⟨Or.inr ⟨by omega, cw_l k g.1.1 (by decide)⟩, fun z => Or.inr (fun W => bt_l k (g.2 z) W)⟩
theorem law_ag {M : mm_M} {p v : Nat} {q : Int × Int × Int × Int} {T : Nat → Int} (h : AGP M p v q T) (w : LWQ q T) (r : RWQ T) : b01 (LAW M p) = 1 := b01_i (by
  have a2 := h.1.2.1
  have l0 := lw_ag h (l := 0) a2.1 a2.2.1 w.1 r.2.2.1.1
  have l1 := lw_ag h (l := 1) a2.2.2.1 a2.2.2.2 w.2 r.2.2.1.2
  refine ⟨l0.1, l1.1, ?_, fun b h0 h1 => ?_⟩
  · unfold BTW
    rw [a2.2.2.1, a2.2.2.2]
    exact l1.2 rfl
  · have e : (M.1 p 0).toInt = T 1 := h.1.1.1
    have bq := r.2.1
    have bb := bq.1
    have k := (h.1.2.2.2.1 b.toNat (by omega) (by omega)).2.2
    rw [k, show 20 + b.toNat = (20 + b).toNat by omega]
    exact (bq.2 b h0 (by omega)).2.2)
theorem prr_ag {M : mm_M} {p v : Nat} {q : Int × Int × Int × Int} {T : Nat → Int} (h : AGP M p v q T) (r : RWQ T) : b01 (PRR (rwX M p v)) = 1 := b01_i (by
  have e : (M.1 v 0).toInt = T 26 := h.1.1.2.2.2.1
  have kq := r.1.1
  have kb := kq.1
  refine ⟨by rw [(rx_l M p v).2.2.1, e]; exact kq.1, fun k h0 h1 => ?_⟩
  rw [(rx_l M p v).2.2.1, e] at h1
  rw [(rx_k M p v (by omega)).1, (h.1.2.2.1 k.toNat (by omega) (by omega)).1, show 33 + k.toNat = (33 + k).toNat by omega]
  exact (kq.2 k h0 h1).1)
theorem eql_ag {M : mm_M} {p v : Nat} {q : Int × Int × Int × Int} {T : Nat → Int} (h : AGP M p v q T) (r280 : T 280 ≤ 900) {g : Nat → Int32} (hg : ∀ j : Nat, j < 1181 → (g j).toInt = T j) {l i j : Nat} (hl : l ≤ 1) {x y : Int} (hi : (M.1 p i).toInt = x) (hj : (M.1 p j).toInt = y) (e2 : rwX M p v (2 + l) = if M.1 p i = M.1 p j then 0 else 1) (e4 : rwX M p v (4 + l) = M.1 p i) (e6 : rwX M p v (6 + l) = M.1 p j - M.1 p i) (w : (x = y ∧ T (2 + l) = 0) ∨ (T (2 + l) = 1 ∧ x = T (4 + l) ∧ y = T (4 + l) + T (6 + l))) (r : WQ l T) : EQL (rwX M p v) g l := by
  have g2 := hg (2 + l) (by omega)
  have g4 := hg (4 + l) (by omega)
  have g6 := hg (6 + l) (by omega)
  have t2 : (rwX M p v (2 + l)).toInt = 0 ↔ x = y := by rw [e2, ← hi, ← hj]; exact i32_ite
  rcases w with ⟨w1, w2⟩ | ⟨w1, w2, w3⟩
  · refine ⟨⟨fun _ => by omega, fun _ => t2.mpr w1⟩, fun z => absurd (show (g (2 + l)).toInt = 0 by omega) z⟩
  · rcases r with r | ⟨_, r2, r3, L, gl, r4, r5⟩
    · omega
    · have n1 := va_l gl.1.2
      refine ⟨⟨fun z => ?_, fun z => by omega⟩, fun _ => ⟨i32_e ?_, i32_e ?_, fun k hk => i32_e ?_⟩⟩
      · have := t2.mp z; omega
      · rw [e4, hi]; omega
      · rw [e6, i32_sub ⟨by omega, by omega⟩]; omega
      · have c := ag_code h 0 (x := T (4 + l) + (k : Int)) (by omega) (by omega)
        rw [show 281 + (g (4 + l)).toInt + (k : Int) = 281 + (T (4 + l) + (k : Int)) by omega, hg _ (by omega), ← c, md_c M p 0 (by omega)]
        unfold rwX
        rw [cl_281 M p v _ (by omega), sI_t (cm_r (sI_r _)), show (281 + (T (4 + l) + (k : Int))).toNat - 281 = (T (4 + l) + (k : Int)).toNat by omega]
/-- the class's row and a row that holds what was told are alike -/
theorem tld_ag {M : mm_M} {p v : Nat} {q : Int × Int × Int × Int} {T : Nat → Int} (h : AGP M p v q T) (w : LWQ q T) (r : RWQ T) (r280 : T 280 ≤ 900) {g : Nat → Int32} (hg : ∀ j : Nat, j < 1181 → (g j).toInt = T j) : EQP (rwX M p v) g ∧ EQS (rwX M p v) g := by
  have a1 := h.1.1
  have a2 := h.1.2.1
  have L := rx_l M p v
  have G := cl_g M p v (M.1 v 4)
  have g0 := hg 0 (by decide)
  have g1 := hg 1 (by decide)
  have g26 := hg 26 (by decide)
  have g27 := hg 27 (by decide)
  have g28 := hg 28 (by decide)
  have g29 := hg 29 (by decide)
  have g30 := hg 30 (by decide)
  have g32 := hg 32 (by decide)
  have bq := r.2.1.1
  have kq := r.1.1.1
  refine ⟨⟨i32_e (by rw [L.1]; omega), i32_e (by rw [L.2.1]; omega), fun b h0 h1 => ?_, ?_, ?_⟩, ⟨i32_e (by rw [L.2.2.1]; omega), i32_e (by rw [L.2.2.2.1]; omega), i32_e (by rw [L.2.2.2.2.1]; omega), i32_e (by rw [L.2.2.2.2.2.1]; omega), i32_e (by rw [L.2.2.2.2.2.2.1]; omega), i32_e (by rw [L.2.2.2.2.2.2.2.2]; omega)⟩, fun k h0 h1 => ?_⟩
  · have B := rx_b M p v (b := b) (by omega)
    have k := h.1.2.2.2.1 b.toNat (by omega) (by omega)
    refine ⟨i32_e ?_, i32_e ?_, i32_e ?_⟩
    · rw [B.1, k.1, hg _ (by omega), show 8 + b.toNat = (8 + b).toNat by omega]
    · rw [B.2.1, k.2.1, hg _ (by omega), show 14 + b.toNat = (14 + b).toNat by omega]
    · rw [B.2.2, k.2.2, hg _ (by omega), show 20 + b.toNat = (20 + b).toNat by omega]
  · exact eql_ag h r280 hg (by decide) a2.1 a2.2.1 G.2.2.1 G.2.2.2.2.1 G.2.2.2.2.2.2.1 w.1 r.2.2.1.1
  · exact eql_ag h r280 hg (by decide) a2.2.2.1 a2.2.2.2 G.2.2.2.1 G.2.2.2.2.2.1 G.2.2.2.2.2.2.2 w.2 r.2.2.1.2
  · have K := rx_k M p v (k := k) (by omega)
    have k2 := h.1.2.2.1 k.toNat (by omega) (by omega)
    refine ⟨i32_e ?_, i32_e ?_⟩
    · rw [K.1, k2.1, hg _ (by omega), show 33 + k.toNat = (33 + k).toNat by omega]
    · rw [K.2, k2.2, hg _ (by omega), show 41 + k.toNat = (41 + k).toNat by omega]
/-- a told law's codes lie within those written -/
def MKX (M : mm_M) (p : Nat) : Prop := ((M.1 p 7).toInt = (M.1 p 8).toInt ∨ (M.1 p 8).toInt ≤ (M.1 p 6).toInt) ∧ ((M.1 p 9).toInt = (M.1 p 10).toInt ∨ (M.1 p 10).toInt ≤ (M.1 p 6).toInt)
theorem mk_ag {M : mm_M} {p v : Nat} {q : Int × Int × Int × Int} {T : Nat → Int} (h : AGP M p v q T) (w : LWQ q T) (r : RWQ T) : b01 (MKX M p) = 1 := b01_i (by
  have a1 := h.1.1
  have a2 := h.1.2.1
  have w0 : T 2 = 0 ∨ T 4 + T 6 ≤ T 280 := r.2.2.1.1.elim Or.inl (fun z => Or.inr z.2.2.1)
  have w1 : T 3 = 0 ∨ T 5 + T 7 ≤ T 280 := r.2.2.1.2.elim Or.inl (fun z => Or.inr z.2.2.1)
  obtain ⟨x, y⟩ := w
  unfold MKX
  omega)
/-- a row holds what was told -/
def TLD (f : Nat → Int) (n : Int) (r : Nat → Int32) : Prop := ∀ g : Nat → Int32, (∀ j : Nat, j < 1181 → (g j).toInt = rdC f n j) → EQP r g ∧ EQS r g
theorem rd_ag {a n : Int} {f : Nat → Int} {M : mm_M} (h : b01 (RDX AGY a f n M) = 1) (h0 : a = 0) (hc : csX M ≤ 900) : b01 (LAW M (M.2.2 78 3)) = 1 ∧ b01 (PRR (rwX M (M.2.2 78 3) (M.2.2 78 4))) = 1 ∧ b01 (TLD f n (rwX M (M.2.2 78 3) (M.2.2 78 4))) = 1 ∧ b01 (MKX M (M.2.2 78 3)) = 1 := by
  obtain ⟨_, q, x1, x2⟩ := (b01_e h).resolve_left (fun w => w h0)
  have r := rw_rd f n
  have c : csX M = rdC f n 280 := x1.1.1.2.2.1
  exact ⟨law_ag x1 x2 r, prr_ag x1 r, b01_i (fun g hg => tld_ag x1 x2 r (by omega) hg), mk_ag x1 x2 r⟩
/-! the class's shop: what becomes of the rest -/
/-- all cells but S -/
def SME (N M : mm_M) (S : List Nat) : Prop := ∀ i, i ∉ S → N.1 i = M.1 i
theorem smx_r (M : mm_M) (S : List Nat) : b01 (SME M M S) = 1 := b01_i (fun _ _ => rfl)
theorem smx_w {M N O : mm_M} {S : List Nat} {c k : Nat} {x : Int32} (h : b01 (SME N M S) = 1) (e : O = wI N c k x) (hc : c ∈ S) : b01 (SME O M S) = 1 := b01_i (fun i hi => (wc_x e (fun z => hi (by rw [z]; exact hc))).trans (b01_e h i hi))
theorem smx_p {M N O : mm_M} {S : List Nat} {c k v : Nat} (h : b01 (SME N M S) = 1) (e : O = wP N c k v) : b01 (SME O M S) = 1 := b01_i (fun i hi => by rw [e]; exact b01_e h i hi)
theorem smx_f {M N O : mm_M} {S T : List Nat} (h : b01 (SME N M S) = 1) (e : FX T N O) (hT : ∀ i ∈ T, i ∈ S) : b01 (SME O M S) = 1 := b01_i (fun i hi => (e.cell (fun z => hi (hT i z))).trans (b01_e h i hi))
theorem smx_d {M N : mm_M} {S : List Nat} {p v : Nat} (h : b01 (RDF M N p v) = 1) (hS : ∀ i ∈ RCL p v, i ∈ S) (h9 : 79 ∈ S) (h8 : 80 ∈ S) : b01 (SME N M S) = 1 := b01_i (fun i hi => (b01_e h).2.1 i (fun z => hi (hS i z)) (fun z => hi (by rw [z]; exact h9)) (fun z => hi (by rw [z]; exact h8)))
/-- the trays' numbers stay -/
def SMJX (N M : mm_M) : Prop := ∀ q : Nat, q < 4 → N.2.1 (s_p0 (s_p0 50 q) 0) = M.2.1 (s_p0 (s_p0 50 q) 0)
theorem smjx_78 : ∀ q, q < 4 → s_p0 (s_p0 50 q) 0 ≠ 78 ∧ s_p0 (s_p0 50 q) 0 ≠ 79 ∧ s_p0 (s_p0 50 q) 0 ≠ 80 := by decide
theorem smjx_r (M : mm_M) : b01 (SMJX M M) = 1 := b01_i (fun _ _ => rfl)
theorem smjx_d {M N : mm_M} {p v : Nat} (h : b01 (RDF M N p v) = 1) : b01 (SMJX N M) = 1 := b01_i (fun q hq => (b01_e h).1.2 _ (smjx_78 q hq).1 (smjx_78 q hq).2.1 (smjx_78 q hq).2.2)
theorem smjx_w {M N O : mm_M} {c k : Nat} {x : Int32} (h : b01 (SMJX N M) = 1) (e : O = wI N c k x) : b01 (SMJX O M) = 1 := b01_i (fun q hq => by rw [e]; exact b01_e h q hq)
theorem smjx_p {M N O : mm_M} {c k v : Nat} (h : b01 (SMJX N M) = 1) (e : O = wP N c k v) : b01 (SMJX O M) = 1 := b01_i (fun q hq => by rw [e]; exact b01_e h q hq)
theorem smjx_f {M N O : mm_M} {T : List Nat} (h : b01 (SMJX N M) = 1) (e : FX T N O) (hT : ∀ q, q < 4 → s_p0 (s_p0 50 q) 0 ∉ T) : b01 (SMJX O M) = 1 := b01_i (fun q hq => (show O.2.1 _ = N.2.1 _ from funext fun k => e.2.2 _ k (hT q hq)).trans (b01_e h q hq))
theorem ple_s {M N : mm_M} {S : List Nat} {p : Nat} (h : b01 (SME N M S) = 1) (hS : ∀ i ∈ S, i ≠ p ∧ i ≠ s_p0 p 2 ∧ i ≠ s_p0 p 3 ∧ i ≠ s_p0 p 4 ∧ i ≠ s_p0 p 5) : PLE M N p := by
  have h := b01_e h
  exact ⟨h _ (fun z => (hS _ z).1 rfl), h _ (fun z => (hS _ z).2.1 rfl), h _ (fun z => (hS _ z).2.2.1 rfl), h _ (fun z => (hS _ z).2.2.2.1 rfl), h _ (fun z => (hS _ z).2.2.2.2 rfl)⟩
theorem ske_s {M N : mm_M} {S : List Nat} {v : Nat} (h : b01 (SME N M S) = 1) (hS : v ∉ S ∧ s_p0 v 1 ∉ S ∧ s_p0 v 2 ∉ S) : SKE M N v := ⟨b01_e h _ hS.1, b01_e h _ hS.2.1, b01_e h _ hS.2.2⟩
/-- two rows that tell the same but for the day -/
theorem tld_c {f : Nat → Int} {n : Int} {r s : Nat → Int32} (h : b01 (TLD f n r) = 1) (e : ∀ j : Nat, j ≠ 31 → s j = r j) : b01 (TLD f n s) = 1 := b01_i (fun g hg => by
  obtain ⟨⟨h0, h1, h2, h3, h4⟩, ⟨k1, k2, k3, k4, k5, k6⟩, k7⟩ := b01_e h g hg
  have z4 : 0 ≤ (g 4).toInt ∨ (g 2).toInt = 0 := by
    rw [hg 4 (by decide), hg 2 (by decide)]
    rcases (rw_rd f n).2.2.1.1 with w | w
    · exact Or.inr w
    · exact Or.inl w.2.1
  have z5 : 0 ≤ (g 5).toInt ∨ (g 3).toInt = 0 := by
    rw [hg 5 (by decide), hg 3 (by decide)]
    rcases (rw_rd f n).2.2.1.2 with w | w
    · exact Or.inr w
    · exact Or.inl w.2.1
  refine ⟨⟨(e 0 (by decide)).trans h0, (e 1 (by decide)).trans h1, fun b b0 b1 => ?_, ?_, ?_⟩, ⟨(e 26 (by decide)).trans k1, (e 27 (by decide)).trans k2, (e 28 (by decide)).trans k3, (e 29 (by decide)).trans k4, (e 30 (by decide)).trans k5, (e 32 (by decide)).trans k6⟩, fun k a0 a1 => ?_⟩
  · have q := h2 b b0 b1
    have b6 : b < 6 := by
      have := (rw_rd f n).2.1.1.2
      rw [← hg 1 (by decide)] at this; omega
    exact ⟨(e _ (by omega)).trans q.1, (e _ (by omega)).trans q.2.1, (e _ (by omega)).trans q.2.2⟩
  · unfold EQL at h3 ⊢
    rw [e (2 + 0) (by decide), e (4 + 0) (by decide), e (6 + 0) (by decide)]
    refine ⟨h3.1, fun z => ⟨(h3.2 z).1, (h3.2 z).2.1, fun i hi => (e _ ?_).trans ((h3.2 z).2.2 i hi)⟩⟩
    have z4 : 0 ≤ (g (4 + 0)).toInt := z4.resolve_right z
    omega
  · unfold EQL at h4 ⊢
    rw [e (2 + 1) (by decide), e (4 + 1) (by decide), e (6 + 1) (by decide)]
    refine ⟨h4.1, fun z => ⟨(h4.2 z).1, (h4.2 z).2.1, fun i hi => (e _ ?_).trans ((h4.2 z).2.2 i hi)⟩⟩
    have z5 : 0 ≤ (g (4 + 1)).toInt := z5.resolve_right z
    omega
  · have q := k7 k a0 a1
    exact ⟨(e _ (by omega)).trans q.1, (e _ (by omega)).trans q.2⟩)
/-- the class's shop, told: R behind the reader, D with the day, N at the end -/
theorem shx_n {a n x : Int} {f : Nat → Int} {M R D N : mm_M} {p v : Nat} {S : List Nat} (hR : b01 (RDX AGY a f n R) = 1) (h0 : a = 0) (hF : b01 (RDF M R p v) = 1) (h6 : (R.1 p 6).toInt ≤ 900) (h7 : 0 ≤ (R.1 p 7).toInt) (h9 : 0 ≤ (R.1 p 9).toInt) (cp : s_c p = 6) (cv : s_c v = 8) (hD : rwX D p v = uR (rwX R p v) 31 x) (hK : skX N 12 = skX D v) (hDN : PLE D N p) (hRN : PLE R N p) : b01 (LAW N p) = 1 ∧ b01 (PRR (rwX N p 12)) = 1 ∧ b01 (TLD f n (rwX N p 12)) = 1 ∧ b01 (MKX N p) = 1 := by
  have e3 : R.2.2 78 3 = p := (b01_e hF).2.2.1
  have e4 : R.2.2 78 4 = v := (b01_e hF).2.2.2
  have q := rd_ag hR h0 (by unfold csX; rw [e3]; exact h6)
  rw [e3, e4] at q
  have e : rwX N p 12 = uR (rwX R p v) 31 x := (rx_eq (p := p) (v := 12) (w := v) hDN hK).trans hD
  refine ⟨law_p hRN h7 h9 q.1, ?_, ?_, b01_i (by unfold MKX; rw [hRN.1]; exact b01_e q.2.2.2)⟩
  · rw [e]; exact b01_i (prr_u (b01_e q.2.1) (by decide))
  · rw [e]; exact tld_c q.2.2.1 (fun j hj => uR_n hj)
