/-! tune -/
theorem apO_g {f g : Nat → Int32} {b k : Int} (h2 : ∀ j, 2 ≤ j → j ≤ 7 → g j = f j) (hb : g (8 + b).toNat = f (8 + b).toNat ∧ g (14 + b).toNat = f (14 + b).toNat) (hk : g (33 + k).toNat = f (33 + k).toNat ∧ g (41 + k).toNat = f (41 + k).toNat) (hc : ∀ j, 281 ≤ j → g j = f j) (h4 : 0 ≤ (f 4).toInt) (h5 : 0 ≤ (f 5).toInt) (o w : Int) : apO g b k o w = apO f b k o w := by
  have wd : wdO g b k o w = wdO f b k o w := by funext j; unfold wdO; rw [hb.1, hb.2, hk.1, hk.2]
  have r0 : rkO g 0 b k o w = rkO f 0 b k o w := by
    unfold rkO
    rw [wd, h2 (4 + 0) (by decide) (by decide), h2 (6 + 0) (by decide) (by decide), rkS_c (fun i hi => hc _ (by have : 0 ≤ (f (4 + 0)).toInt := h4; omega))]
  have r1 : rkO g 1 b k o w = rkO f 1 b k o w := by
    unfold rkO
    rw [wd, h2 (4 + 1) (by decide) (by decide), h2 (6 + 1) (by decide) (by decide), rkS_c (fun i hi => hc _ (by have : 0 ≤ (f (4 + 1)).toInt := h5; omega))]
  unfold apO ltO wtO
  rw [r0, r1, h2 2 (by decide) (by decide), h2 3 (by decide) (by decide), hb.1, hk.1]
def PLE (M N : mm_M) (p : Nat) : Prop := N.1 p = M.1 p ∧ N.1 (s_p0 p 2) = M.1 (s_p0 p 2) ∧ N.1 (s_p0 p 3) = M.1 (s_p0 p 3) ∧ N.1 (s_p0 p 4) = M.1 (s_p0 p 4) ∧ N.1 (s_p0 p 5) = M.1 (s_p0 p 5)
theorem apX_c {M N : mm_M} {p : Nat} {b k : Int} (hp : PLE M N p) (hb : 0 ≤ b ∧ b < 6) (hk : 0 ≤ k ∧ k < 8) (h : N.1 83 k.toNat = M.1 83 k.toNat ∧ N.1 84 k.toNat = M.1 84 k.toNat) (h4 : 0 ≤ (M.1 p 7).toInt) (h5 : 0 ≤ (M.1 p 9).toInt) (o w : Int) : apO (mdX N p 0) b k o w = apO (mdX M p 0) b k o w := by
  obtain ⟨p1, p2, p3, p4, p5⟩ := hp
  refine apO_g (fun j h1 h2 => ?_) ⟨?_, ?_⟩ ⟨?_, ?_⟩ (fun j hj => ?_) h4 h5 o w
  · rcases (show j = 2 ∨ j = 3 ∨ j = 4 ∨ j = 5 ∨ j = 6 ∨ j = 7 by omega) with rfl | rfl | rfl | rfl | rfl | rfl
    · rw [(md_lo N p 0).1, (md_lo M p 0).1, p1]
    · rw [(md_lo N p 0).2.1, (md_lo M p 0).2.1, p1]
    · rw [(md_lo N p 0).2.2.1, (md_lo M p 0).2.2.1, p1]
    · rw [(md_lo N p 0).2.2.2.1, (md_lo M p 0).2.2.2.1, p1]
    · rw [(md_lo N p 0).2.2.2.2.1, (md_lo M p 0).2.2.2.2.1, p1]
    · rw [(md_lo N p 0).2.2.2.2.2.1, (md_lo M p 0).2.2.2.2.2.1, p1]
  · rw [md_8 N p 0 hb, md_8 M p 0 hb, p2]
  · rw [md_14 N p 0 hb, md_14 M p 0 hb, p3]
  · rw [md_33 N p 0 hk, md_33 M p 0 hk]; exact h.1
  · rw [md_41 N p 0 hk, md_41 M p 0 hk]; exact h.2
  · unfold mdX clX
    rw [p5]
    (repeat rw [if_neg (by omega)])
    (repeat rw [if_neg (by omega)])
theorem ple_w {M N : mm_M} {p i k : Nat} {v : Int32} (e : N = wI M i k v) (cp : s_c p = 6) (hi : i = 82 ∨ i = 83 ∨ i = 84) : PLE M N p := by
  have lt := s_lt (c := 6) cp rfl
  have t := s_plan p lt cp
  have c : s_c i = 33 ∨ s_c i = 34 ∨ s_c i = 35 := by rcases hi with rfl | rfl | rfl <;> decide
  have ne : ∀ a q : Nat, s_c a = q → ¬ q = 33 → ¬ q = 34 → ¬ q = 35 → N.1 a = M.1 a := fun a q ha h1 h2 h3 => wI_cell e (fun z => by subst z; rw [ha] at c; omega)
  exact ⟨ne p 6 cp (by decide) (by decide) (by decide), ne _ 21 t.1 (by decide) (by decide) (by decide), ne _ 22 t.2.1 (by decide) (by decide) (by decide), ne _ 23 t.2.2.1 (by decide) (by decide) (by decide), ne _ 24 t.2.2.2 (by decide) (by decide) (by decide)⟩
/-- while kind k is tuned: the others are right, of its own those below x are unknown -/
def APZ (M : mm_M) (p : Nat) (k x : Int) : Prop := (∀ k' b o w : Int, ¬ k' = k → (0 ≤ k' ∧ k' < 8) → (0 ≤ b ∧ b < 6) → (0 ≤ o ∧ o ≤ 8) → (0 ≤ w ∧ w ≤ 1) → (M.1 83 k'.toNat).toInt = 0 ∨ (M.1 82 (k' * 108 + (b * 9 + o) * 2 + w).toNat).toInt = -1 ∨ (M.1 82 (k' * 108 + (b * 9 + o) * 2 + w).toNat).toInt = apO (mdX M p 0) b k' o w) ∧ ∀ y : Int, k * 108 ≤ y → y < x → (M.1 82 y.toNat).toInt = -1
theorem apz_0 {M M1 M2 : mm_M} {p : Nat} {k x v1 v2 : Int} (h : b01 (APX M p) = 1) (cp : s_c p = 6) (e1 : M1 = wI M 83 k.toNat (sI v1)) (e2 : M2 = wI M1 84 k.toNat (sI v2)) (hk : 0 ≤ k ∧ k < 8) (hx : x = k * 108) (h4 : 0 ≤ (M.1 p 7).toInt) (h5 : 0 ≤ (M.1 p 9).toInt) : b01 (APZ M2 p k x) = 1 := b01_i (by
  refine ⟨fun k' b o w hne hk' hb ho hw => ?_, fun y h1 h2 => by omega⟩
  have q1 := ple_w e1 cp (by decide)
  have q2 := ple_w e2 cp (by decide)
  have c83 : M2.1 83 k'.toNat = M.1 83 k'.toNat := by
    rw [wI_cell e2 (show (83 : Nat) ≠ 84 by decide), e1]; show u2 M.1 83 k.toNat (sI v1) 83 k'.toNat = _; rw [u2_b _ _ (show k'.toNat ≠ k.toNat by omega)]
  have c84 : M2.1 84 k'.toNat = M.1 84 k'.toNat := by
    rw [e2]; show u2 M1.1 84 k.toNat (sI v2) 84 k'.toNat = _; rw [u2_b _ _ (show k'.toNat ≠ k.toNat by omega), wI_cell e1 (show (84 : Nat) ≠ 83 by decide)]
  have c82 : M2.1 82 = M.1 82 := by rw [wI_cell e2 (show (82 : Nat) ≠ 84 by decide), wI_cell e1 (show (82 : Nat) ≠ 83 by decide)]
  rw [c83, c82, apX_c (M := M) (N := M2) ⟨q2.1.trans q1.1, q2.2.1.trans q1.2.1, q2.2.2.1.trans q1.2.2.1, q2.2.2.2.1.trans q1.2.2.2.1, q2.2.2.2.2.trans q1.2.2.2.2⟩ hb hk' ⟨c83, c84⟩ h4 h5]
  exact b01_e h k' b o w hk' hb ho hw)
theorem apz_s {M M' : mm_M} {p : Nat} {k x x' : Int} (h : b01 (APZ M p k x) = 1) (cp : s_c p = 6) (e : M' = wI M 82 x.toNat (sI (-1))) (hk : (0 ≤ k ∧ k < 8) ∧ k * 108 ≤ x ∧ x < (k + 1) * 108) (hx : x' = x + 1) (h4 : 0 ≤ (M.1 p 7).toInt) (h5 : 0 ≤ (M.1 p 9).toInt) : b01 (APZ M' p k x') = 1 := b01_i (by
  obtain ⟨a1, a2⟩ := b01_e h
  have q := ple_w e cp (by decide)
  have rd : ∀ y : Int, 0 ≤ y → ¬ y = x → (M'.1 82 y.toNat).toInt = (M.1 82 y.toNat).toInt := fun y h0 h1 => s_fb e (by omega) rfl
  refine ⟨fun k' b o w hne hk' hb ho hw => ?_, fun y h1 h2 => ?_⟩
  · rw [rd _ (by omega) (by omega), wI_cell e (show (83 : Nat) ≠ 82 by decide), apX_c (M := M) (N := M') q hb hk' ⟨by rw [wI_cell e (show (83 : Nat) ≠ 82 by decide)], by rw [wI_cell e (show (84 : Nat) ≠ 82 by decide)]⟩ h4 h5]
    exact a1 k' b o w hne hk' hb ho hw
  · by_cases z : y = x
    · rw [z, s_wr e (by decide)]
    · rw [rd y (by omega) z]; exact a2 y h1 (by omega))
theorem apz_e {M : mm_M} {p : Nat} {k x : Int} (h : b01 (APZ M p k x) = 1) (hk : (0 ≤ k ∧ k < 8) ∧ (k + 1) * 108 ≤ x) : b01 (APX M p) = 1 := b01_i (by
  obtain ⟨a1, a2⟩ := b01_e h
  intro k' b o w hk' hb ho hw
  by_cases z : k' = k
  · subst z; exact Or.inr (Or.inl (a2 _ (by omega) (by omega)))
  · exact a1 k' b o w z hk' hb ho hw)
/-- the first kinds are as the stock has them -/
def TUP (M B : mm_M) (v : Nat) (n : Int) : Prop := ∀ k : Int, 0 ≤ k → k < n → M.1 83 k.toNat = B.1 (s_p0 v 1) k.toNat ∧ M.1 84 k.toNat = B.1 (s_p0 v 2) k.toNat
theorem tup_0 (M B : mm_M) (v : Nat) : b01 (TUP M B v 0) = 1 := b01_i (fun k h0 h1 => by omega)
theorem tup_s {M B : mm_M} {v : Nat} {n n' : Int} (h : b01 (TUP M B v n) = 1) (h1 : (M.1 83 n.toNat).toInt = (B.1 (s_p0 v 1) n.toNat).toInt) (h2 : (M.1 84 n.toNat).toInt = (B.1 (s_p0 v 2) n.toNat).toInt) (hn : n' = n + 1) : b01 (TUP M B v n') = 1 := b01_i (fun k h0 hk => by
  by_cases z : k = n
  · subst z; exact ⟨Int32.toInt_inj.mp h1, Int32.toInt_inj.mp h2⟩
  · exact b01_e h k h0 (by omega))
theorem tup_q {M B : mm_M} {v : Nat} {n n' : Int} (h : b01 (TUP M B v n) = 1) (hn : n = n') : b01 (TUP M B v n') = 1 := by subst hn; exact h
theorem tup_w {M M' B : mm_M} {v : Nat} {n x : Int} {i : Nat} {w : Int32} (h : b01 (TUP M B v n) = 1) (e : M' = wI M i x.toNat w) (hi : i = 82 ∨ (0 ≤ x ∧ n ≤ x)) : b01 (TUP M' B v n) = 1 := b01_i (fun k h0 hk => by
  have q := b01_e h k h0 hk
  have c : ∀ j : Nat, (j = 83 ∨ j = 84) → M'.1 j k.toNat = M.1 j k.toNat := fun j hj => by
    by_cases z : j = i
    · rw [e, z]; exact u2_b _ _ (show k.toNat ≠ x.toNat by omega)
    · rw [wI_cell e z]
  rw [c 83 (by decide), c 84 (by decide)]; exact q)
theorem apx_P {M M' : mm_M} {p i k v : Nat} (e : M' = wP M i k v) (h : b01 (APX M p) = 1) : b01 (APX M' p) = 1 := by
  have : M'.1 = M.1 := by rw [e]
  refine b01_i (fun k b o w hk hb ho hw => ?_)
  have md : mdX M' p 0 = mdX M p 0 := by funext j; unfold mdX clX; rw [this]
  rw [this, md]; exact b01_e h k b o w hk hb ho hw
theorem apx_k {M M' : mm_M} {p : Nat} {v : Int32} (e : M' = wI M 81 6 v) (cp : s_c p = 6) (h4 : 0 ≤ (M.1 p 7).toInt) (h5 : 0 ≤ (M.1 p 9).toInt) (h : b01 (APX M p) = 1) : b01 (APX M' p) = 1 := b01_i (fun k b o w hk hb ho hw => by
  have lt := s_lt (c := 6) cp rfl
  have t := s_plan p lt cp
  have c81 : s_c 81 = 3 := rfl
  have ne : ∀ a q : Nat, s_c a = q → ¬ q = 3 → M'.1 a = M.1 a := fun a q ha h1 => wI_cell e (fun z => by subst z; rw [ha] at c81; exact h1 c81)
  have ple : PLE M M' p := ⟨ne p 6 cp (by decide), ne _ 21 t.1 (by decide), ne _ 22 t.2.1 (by decide), ne _ 23 t.2.2.1 (by decide), ne _ 24 t.2.2.2 (by decide)⟩
  rw [wI_cell e (show (83 : Nat) ≠ 81 by decide), wI_cell e (show (82 : Nat) ≠ 81 by decide), apX_c ple hb hk ⟨by rw [wI_cell e (show (83 : Nat) ≠ 81 by decide)], by rw [wI_cell e (show (84 : Nat) ≠ 81 by decide)]⟩ h4 h5]
  exact b01_e h k b o w hk hb ho hw)
section YAK
variable {p : Program} {l : Launch} {e : Env} {R : Room} {s : State} {m : MethodId} {args : Array Value} {below : List Frame} {meth : Method} {c : Code} {cells slots : Nat} {Q : State → Prop} {cc : ByteArray} {nL : Nat} {own : String} {Ts : List Cond} {dC : Nat → ClassId} {dI : Nat → Nat → Nat} {ad : Nat → Nat} {cA : Nat → ClassId} {A : Nat → Prop} {M Kz : mm_M} {pr : Nat → Nat → Bool} {pc : Nat} {lv : List (Nat × Value)} {st : List Value}
theorem y_aaldK (C : jj_C p R s m args c cells slots cc nL own Ts dC dI ad cA A) {i : Nat} {x : Int} (ci n t j : Nat) (h : s_c i = ci) (h9 : Nat.ble 20 ci = true) (h8 : Nat.ble ci 899 = true) (hk : Nat.ble 103 (s_ak ci) = true) (hn : s_an ci = n) (hs : Nat.ble n 32 = true) (hm : ∀ k, s_m ci k = 0) (ht : ∀ k, k < n → s_t ci k = t) (h0 : ¬ t = 0) (hM : INV pr Kz M) (d : decode cc pc = .ok (.aaload, 1)) (hx : 0 ≤ x ∧ x < n) (hj : s_p0 i x.toNat = j) (k : jj p l e R s m args below meth c cells slots Q nL dC dI ad cA A M (pc + 1) lv (.ref (ad j) :: st)) : jj p l e R s m args below meth c cells slots Q nL dC dI ad cA A M pc lv (.int (sI x) :: .ref (ad i) :: st) := y_aaldE C ci n t h h9 h8 hk hn hs hm ht h0 hM d hx (fun _ => by rw [hj]; exact k)
end YAK
/-! copies of a stock -/
def CPA (M B : mm_M) (p0 p1 g0 g1 : Nat) (n : Int) : Prop := ∀ k : Nat, (k : Int) < n → M.1 p0 k = B.1 p1 k ∧ M.1 g0 k = B.1 g1 k
theorem cpa_0 (M B : mm_M) (p0 p1 g0 g1 : Nat) : b01 (CPA M B p0 p1 g0 g1 0) = 1 := b01_i (fun k hk => by omega)
theorem cpa_s {M M1 M2 B : mm_M} {p0 p1 g0 g1 : Nat} {n n' : Int} (h : b01 (CPA M B p0 p1 g0 g1 n) = 1) (hn : 0 ≤ n ∧ n' = n + 1) (e1 : M1 = wI M p0 n.toNat (sI (B.1 p1 n.toNat).toInt)) (e2 : M2 = wI M1 g0 n.toNat (sI (B.1 g1 n.toNat).toInt)) (hp : p0 ≠ g0) : b01 (CPA M2 B p0 p1 g0 g1 n') = 1 := b01_i (fun k hk => by
  have a : M2.1 p0 k = M1.1 p0 k := by rw [wI_cell e2 hp]
  have b : M1.1 g0 k = M.1 g0 k := by rw [wI_cell e1 hp.symm]
  rw [a]
  by_cases z : k = n.toNat
  · subst z
    constructor
    · rw [e1, sI_o]; exact u2_s _ _ _ _
    · rw [e2, sI_o]; exact u2_s _ _ _ _
  · have q := b01_e h k (by omega)
    constructor
    · rw [e1]; show u2 M.1 p0 n.toNat _ p0 k = _; rw [u2_b _ _ z]; exact q.1
    · rw [e2]; show u2 M1.1 g0 n.toNat _ g0 k = _; rw [u2_b _ _ z, b]; exact q.2)
theorem cpa_c {M M' B : mm_M} {p0 p1 g0 g1 : Nat} {n n' : Int} (h : b01 (CPA M B p0 p1 g0 g1 n) = 1) (h1 : M'.1 p0 = M.1 p0) (h2 : M'.1 g0 = M.1 g0) (hn : n = n') : b01 (CPA M' B p0 p1 g0 g1 n') = 1 := b01_i (fun k hk => by
  rw [h1, h2]; exact b01_e h k (by omega))
