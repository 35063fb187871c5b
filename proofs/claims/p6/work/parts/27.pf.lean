/-! WHAT IS FED: the bytes of five ints -/
def byU (x s : Int) : Int := andI (ushrI x s) 255
def byS (x s : Int) : Int := andI (shrI x s) 255
theorem and255 (x : BitVec 32) : (x &&& 255#32).toNat = x.toNat % 256 := by
  rw [BitVec.toNat_and]
  show x.toNat &&& (2 ^ 8 - 1) = x.toNat % 2 ^ 8
  exact Nat.and_two_pow_sub_one_eq_mod _ _
theorem sh_eq (x : BitVec 32) (k : Nat) (hk : k = 0 ∨ k = 8 ∨ k = 16 ∨ k = 24) : (x >>> k) &&& 255#32 = (x.sshiftRight k) &&& 255#32 := by
  apply BitVec.eq_of_toNat_eq
  rw [and255, and255, BitVec.toNat_ushiftRight, BitVec.toNat_sshiftRight]
  have hx := x.isLt
  rcases hk with rfl | rfl | rfl | rfl <;> simp only [Nat.shiftRight_eq_div_pow] <;> split <;> omega
theorem by_eq {x s : Int} (h : s = 0 ∨ s = 8 ∨ s = 16 ∨ s = 24) : byU x s = byS x s := by
  unfold byU byS andI ushrI shrI
  rw [sI_o, sI_o]
  congr 1
  apply Int32.toBitVec_inj.mp
  rcases h with rfl | rfl | rfl | rfl
  · exact sh_eq (sI x).toBitVec 0 (by decide)
  · exact sh_eq (sI x).toBitVec 8 (by decide)
  · exact sh_eq (sI x).toBitVec 16 (by decide)
  · exact sh_eq (sI x).toBitVec 24 (by decide)
/-- the class's tape from t0 on has the bytes of x; N's own size says how many -/
def PBX (M N : mm_M) (x : Int) : Prop := ∀ k : Nat, ((M.1 0 1).toInt ≤ k ∧ (k : Int) < (N.1 0 1).toInt → (N.1 1 k).toInt = byU x (24 - 8 * ((k : Int) - (M.1 0 1).toInt))) ∧ (¬ ((M.1 0 1).toInt ≤ k ∧ (k : Int) < (N.1 0 1).toInt) → N.1 1 k = M.1 1 k)
theorem pbx0 (M : mm_M) (x : Int) : b01 (PBX M M x) = 1 := b01_i fun k => ⟨fun h => by omega, fun _ => rfl⟩
theorem pbxs {M0 M M1 M2 : mm_M} {x t v s : Int} (h : b01 (PBX M0 M x) = 1) (e1 : M1 = wI M 1 t.toNat (sI v)) (e2 : M2 = wI M1 0 1 (sI (t + 1))) (ht : t = (M.1 0 1).toInt ∧ (M0.1 0 1).toInt ≤ t ∧ 0 ≤ t ∧ t ≤ 900) (hv : v = byU x s ∧ -2147483648 ≤ v ∧ v ≤ 2147483647) (hs : s = 24 - 8 * (t - (M0.1 0 1).toInt)) : b01 (PBX M0 M2 x) = 1 := b01_i fun k => by
  have hh := b01_e h k
  have a : (M2.1 0 1).toInt = t + 1 := s_wr e2 (by omega)
  have b : M2.1 1 k = M1.1 1 k := congrFun (wc_x e2 (by decide)) k
  rw [a, b]
  by_cases z : (k : Int) = t
  · refine ⟨fun _ => ?_, fun q => absurd ⟨by omega, by omega⟩ q⟩
    have c : (M1.1 1 t.toNat).toInt = v := s_wr e1 hv.2
    rw [show k = t.toNat by omega, c, hv.1, hs, show (((t.toNat : Nat) : Int)) = t by omega]
  · have c : M1.1 1 k = M.1 1 k := wp_x e1 (by omega)
    rw [c]
    refine ⟨fun q => hh.1 (by omega), fun q => hh.2 (by omega)⟩
/-- the q-th of five -/
def ar5 (a b c d e : Int) (q : Int) : Int := if q = 0 then a else if q = 1 then b else if q = 2 then c else if q = 3 then d else e
def FDX (M N : mm_M) (a b c d e : Int) : Prop := ∀ k : Nat, ((M.1 0 1).toInt ≤ k ∧ (k : Int) < (N.1 0 1).toInt → (N.1 1 k).toInt = byU (ar5 a b c d e (((k : Int) - (M.1 0 1).toInt) / 4)) (24 - 8 * (((k : Int) - (M.1 0 1).toInt) % 4))) ∧ (¬ ((M.1 0 1).toInt ≤ k ∧ (k : Int) < (N.1 0 1).toInt) → N.1 1 k = M.1 1 k)
theorem fdx0 (M : mm_M) (a b c d e : Int) : b01 (FDX M M a b c d e) = 1 := b01_i fun k => ⟨fun h => by omega, fun _ => rfl⟩
theorem fdx5 {M M1 M2 M3 M4 M5 : mm_M} {a b c d e : Int} (h1 : b01 (PBX M M1 a) = 1) (h2 : b01 (PBX M1 M2 b) = 1) (h3 : b01 (PBX M2 M3 c) = 1) (h4 : b01 (PBX M3 M4 d) = 1) (h5 : b01 (PBX M4 M5 e) = 1) (q : (M1.1 0 1).toInt = (M.1 0 1).toInt + 4 ∧ (M2.1 0 1).toInt = (M1.1 0 1).toInt + 4 ∧ (M3.1 0 1).toInt = (M2.1 0 1).toInt + 4 ∧ (M4.1 0 1).toInt = (M3.1 0 1).toInt + 4 ∧ (M5.1 0 1).toInt = (M4.1 0 1).toInt + 4) : b01 (FDX M M5 a b c d e) = 1 := b01_i fun k => by
  obtain ⟨q1, q2, q3, q4, q5⟩ := q
  have p1 := b01_e h1 k; have p2 := b01_e h2 k; have p3 := b01_e h3 k; have p4 := b01_e h4 k; have p5 := b01_e h5 k
  generalize hT : (M.1 0 1).toInt = T at *
  generalize (M1.1 0 1).toInt = T1 at *
  generalize (M2.1 0 1).toInt = T2 at *
  generalize (M3.1 0 1).toInt = T3 at *
  generalize (M4.1 0 1).toInt = T4 at *
  generalize (M5.1 0 1).toInt = T5 at *
  refine ⟨fun h => ?_, fun h => ?_⟩
  · rcases (show ((k : Int) - T) / 4 = 0 ∨ ((k : Int) - T) / 4 = 1 ∨ ((k : Int) - T) / 4 = 2 ∨ ((k : Int) - T) / 4 = 3 ∨ ((k : Int) - T) / 4 = 4 by omega) with z | z | z | z | z
    · rw [p5.2 (by omega), p4.2 (by omega), p3.2 (by omega), p2.2 (by omega), p1.1 (by omega), z, show ((k : Int) - T) % 4 = (k : Int) - T by omega]; rfl
    · rw [p5.2 (by omega), p4.2 (by omega), p3.2 (by omega), p2.1 (by omega), z, show ((k : Int) - T) % 4 = (k : Int) - T1 by omega]; rfl
    · rw [p5.2 (by omega), p4.2 (by omega), p3.1 (by omega), z, show ((k : Int) - T) % 4 = (k : Int) - T2 by omega]; rfl
    · rw [p5.2 (by omega), p4.1 (by omega), z, show ((k : Int) - T) % 4 = (k : Int) - T3 by omega]; rfl
    · rw [p5.1 (by omega), z, show ((k : Int) - T) % 4 = (k : Int) - T4 by omega]; rfl
  · rw [p5.2 (by omega), p4.2 (by omega), p3.2 (by omega), p2.2 (by omega), p1.2 (by omega)]
/-- the reference's -/
def FDM (M N : mm_M) (a b c d e : Int) : Prop := ∀ k : Nat, ((M.1 98 5).toInt ≤ k ∧ (k : Int) < (N.1 98 5).toInt → (N.1 101 k).toInt = byS (ar5 a b c d e (((k : Int) - (M.1 98 5).toInt) / 4)) (24 - 8 * (((k : Int) - (M.1 98 5).toInt) % 4))) ∧ (¬ ((M.1 98 5).toInt ≤ k ∧ (k : Int) < (N.1 98 5).toInt) → N.1 101 k = M.1 101 k)
theorem fdm0 {M N : mm_M} (a b c d e : Int) (h1 : N.1 101 = M.1 101) (h5 : (N.1 98 5).toInt = (M.1 98 5).toInt) : b01 (FDM M N a b c d e) = 1 := b01_i fun k => ⟨fun h => by omega, fun _ => by rw [h1]⟩
theorem fdms {M0 M M1 M2 : mm_M} {a b c d e t v w q : Int} (h : b01 (FDM M0 M a b c d e) = 1) (e1 : M1 = wI M 101 t.toNat (sI v)) (e2 : M2 = wI M1 98 5 (sI (t + 1))) (ht : t = (M.1 98 5).toInt ∧ t = (M0.1 98 5).toInt + q ∧ 0 ≤ q ∧ 0 ≤ t ∧ t ≤ 900) (hv : v = byS w (24 - 8 * (q % 4)) ∧ -2147483648 ≤ v ∧ v ≤ 2147483647) (hw : w = ar5 a b c d e (q / 4)) : b01 (FDM M0 M2 a b c d e) = 1 := b01_i fun k => by
  have hh := b01_e h k
  have x : (M2.1 98 5).toInt = t + 1 := s_wr e2 (by omega)
  have y : M2.1 101 k = M1.1 101 k := congrFun (wc_x e2 (by decide)) k
  rw [x, y]
  by_cases z : (k : Int) = t
  · refine ⟨fun _ => ?_, fun q => absurd ⟨by omega, by omega⟩ q⟩
    have u : (M1.1 101 t.toNat).toInt = v := s_wr e1 hv.2
    rw [show k = t.toNat by omega, u, hv.1, hw, show (((t.toNat : Nat) : Int)) - (M0.1 98 5).toInt = q by omega]
  · have u : M1.1 101 k = M.1 101 k := wp_x e1 (by omega)
    rw [u]
    refine ⟨fun q => hh.1 (by omega), fun q => hh.2 (by omega)⟩
theorem ar_s (a b c d e q : Int) : (q = 0 ∧ ar5 a b c d e q = a) ∨ (q = 1 ∧ ar5 a b c d e q = b) ∨ (q = 2 ∧ ar5 a b c d e q = c) ∨ (q = 3 ∧ ar5 a b c d e q = d) ∨ (¬ q = 0 ∧ ¬ q = 1 ∧ ¬ q = 2 ∧ ¬ q = 3 ∧ ar5 a b c d e q = e) := by
  unfold ar5
  by_cases h0 : q = 0
  · rw [if_pos h0]; exact Or.inl ⟨h0, rfl⟩
  rw [if_neg h0]
  by_cases h1 : q = 1
  · rw [if_pos h1]; exact Or.inr (Or.inl ⟨h1, rfl⟩)
  rw [if_neg h1]
  by_cases h2 : q = 2
  · rw [if_pos h2]; exact Or.inr (Or.inr (Or.inl ⟨h2, rfl⟩))
  rw [if_neg h2]
  by_cases h3 : q = 3
  · rw [if_pos h3]; exact Or.inr (Or.inr (Or.inr (Or.inl ⟨h3, rfl⟩)))
  rw [if_neg h3]
  exact Or.inr (Or.inr (Or.inr (Or.inr ⟨h0, h1, h2, h3, rfl⟩)))
/-- the tapes are the same, as far as they go -/
def T4 (M : mm_M) : Prop := ∀ k : Nat, (k : Int) < (M.1 0 1).toInt → (M.1 1 k).toInt = (M.1 101 k).toInt
theorem t4_f {M M1 M2 : mm_M} {a b c d e : Int} (h : T4 M) (ht : (M.1 0 1).toInt = (M.1 98 5).toInt) (hx : b01 (FDX M M1 a b c d e) = 1) (hm : b01 (FDM M1 M2 a b c d e) = 1) (g1 : ∀ k, M1.1 101 k = M.1 101 k) (g2 : (M1.1 98 5).toInt = (M.1 98 5).toInt) (g3 : ∀ k, M2.1 1 k = M1.1 1 k) (g4 : (M2.1 0 1).toInt = (M1.1 0 1).toInt) (g5 : (M2.1 98 5).toInt = (M2.1 0 1).toInt) : T4 M2 := fun k hk => by
  have x := b01_e hx k
  have m := b01_e hm k
  rw [g3]
  rw [g4] at g5 hk
  by_cases z : (M.1 0 1).toInt ≤ (k : Int)
  · rw [x.1 ⟨z, hk⟩, m.1 ⟨by omega, by omega⟩, g2, ← ht]
    exact by_eq (by omega)
  · rw [x.2 (by omega), m.2 (by omega), g1]
    exact h k (by omega)
theorem t4_m {M : mm_M} {n : Int} (h : T4 M) (hn : n ≤ (M.1 0 1).toInt) : mskT (M.1 1) n = mskT (M.1 101) n := by
  funext k
  unfold mskT
  by_cases q : (k : Int) < n
  · rw [if_pos q, if_pos q]; exact h k (by omega)
  · rw [if_neg q, if_neg q]
theorem sub_o (b : Int) : b < -2147483617 ∨ 2147483618 < b ∨ subI (-30) b = -30 - b := by
  by_cases h : -2147483648 ≤ -30 - b ∧ -30 - b ≤ 2147483647
  · right; right; unfold subI; rw [sI_sub, sI_t h]
  · omega
theorem rd_c {M M1 : mm_M} (h : T4 M) (g : ∀ k, M1.1 101 k = M.1 101 k) (n : Int) : (M.1 0 1).toInt < n ∨ ((rdP (mskT (M.1 1) n) n).1 = (rdP (mskT (M1.1 101) n) n).1 ∧ (rdP (mskT (M.1 1) n) n).2.1 = (rdP (mskT (M1.1 101) n) n).2.1 ∧ (rdP (mskT (M.1 1) n) n).2.2 = (rdP (mskT (M1.1 101) n) n).2.2) := by
  by_cases q : n ≤ (M.1 0 1).toInt
  · right
    rw [t4_m h q, show M1.1 101 = M.1 101 from funext g]
    exact ⟨rfl, rfl, rfl⟩
  · left; omega
