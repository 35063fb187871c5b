/-! THE PAST: what was ahead of the latest deeds -/
theorem sI_remT {a b : Int} (ha : -2147483648 ≤ a ∧ a ≤ 2147483647) (hb : 0 < b ∧ b ≤ 2147483647) : sI a - sI a / sI b * sI b = sI (if 0 ≤ a then a % b else -((-a) % b)) := by
  by_cases h : 0 ≤ a
  · rw [if_pos h]; exact sI_rem ⟨h, ha.2⟩ hb
  · rw [if_neg h]
    obtain ⟨y, hy, h3⟩ : ∃ y : Int, a = -y ∧ 0 ≤ y := ⟨-a, by omega, by omega⟩
    have h1 : y / b ≤ y := Int.ediv_le_self b h3
    have h2 : 0 ≤ y / b := Int.ediv_nonneg h3 (by omega)
    have q : a.tdiv b = -(y / b) := by rw [hy, Int.neg_tdiv, Int.tdiv_eq_ediv_of_nonneg h3]
    have e : sI a / sI b = sI (a.tdiv b) := by
      apply Int32.toInt_inj.mp
      rw [Int32.toInt_div_of_ne_right, sI_t ha, sI_t (by omega), sI_t (by omega)]
      · intro h
        have := congrArg Int32.toInt h
        rw [sI_t (by omega)] at this
        simp at this
        omega
    rw [e, sI_mul, sI_sub, q, show -a = y by omega]
    congr 1
    rw [Int.emod_def, hy, Int.neg_mul, Int.mul_comm (y / b) b]
    omega
section YCY
variable {p : Program} {l : Launch} {e : Env} {R : Room} {s : State} {m : MethodId} {args : Array Value} {below : List Frame} {meth : Method} {c : Code} {cells slots : Nat} {Q : State → Prop} {cc : ByteArray} {nL : Nat} {own : String} {Ts : List Cond} {dC : Nat → ClassId} {dI : Nat → Nat → Nat} {ad : Nat → Nat} {cA : Nat → ClassId} {A : Nat → Prop} {M Kz : mm_M} {pr : Nat → Nat → Bool} {pc : Nat} {lv : List (Nat × Value)} {st : List Value}
theorem y_iremT (C : jj_C p R s m args c cells slots cc nL own Ts dC dI ad cA A) {a b : Int} (d : decode cc pc = .ok (.irem, 1)) (h : -2147483648 ≤ a ∧ a ≤ 2147483647 ∧ 0 < b ∧ b ≤ 2147483647) (k : ∀ r : Int, -b < r → r < b → ((0 ≤ a ∧ r = a % b) ∨ (a < 0 ∧ r = -((-a) % b))) → jj p l e R s m args below meth c cells slots Q nL dC dI ad cA A M (pc + 1) lv (.int (sI r) :: st)) : jj p l e R s m args below meth c cells slots Q nL dC dI ad cA A M pc lv (.int (sI b) :: .int (sI a) :: st) := by
  have h1 := Int.emod_nonneg a (show b ≠ 0 by omega)
  have h2 := Int.emod_lt_of_pos a h.2.2.1
  have h3 := Int.emod_nonneg (-a) (show b ≠ 0 by omega)
  have h4 := Int.emod_lt_of_pos (-a) h.2.2.1
  refine z_irem C _ (sI_remT ⟨h.1, h.2.1⟩ h.2.2) (sI_ne (by omega) (by omega)) d (k _ ?_ ?_ ?_)
  · split <;> omega
  · split <;> omega
  · split
    · exact Or.inl ⟨by assumption, rfl⟩
    · exact Or.inr ⟨by omega, rfl⟩
end YCY
theorem sk_f {M N : mm_M} {v : Nat} (h : SKE M N v) : skX N v = skX M v := by
  funext j
  unfold skX
  by_cases q : j < 23
  · rw [if_pos q, if_pos q]
    unfold rwX
    have a := cl_f N v v (N.1 v 4)
    have b := cl_f M v v (M.1 v 4)
    rw [h.1] at a
    by_cases q1 : j < 7
    · rw [h.1]
      rcases (show j = 0 ∨ j = 1 ∨ j = 2 ∨ j = 3 ∨ j = 4 ∨ j = 5 ∨ j = 6 by omega) with rfl | rfl | rfl | rfl | rfl | rfl | rfl
      · exact a.1.trans b.1.symm
      · exact a.2.1.trans b.2.1.symm
      · exact a.2.2.1.trans b.2.2.1.symm
      · exact a.2.2.2.1.trans b.2.2.2.1.symm
      · exact a.2.2.2.2.1.trans b.2.2.2.2.1.symm
      · exact a.2.2.2.2.2.1.trans b.2.2.2.2.2.1.symm
      · exact a.2.2.2.2.2.2.trans b.2.2.2.2.2.2.symm
    · by_cases q2 : j < 15
      · rw [cl_33 N v v _ (by omega), cl_33 M v v _ (by omega), h.2.1]
      · rw [cl_41 N v v _ (by omega), cl_41 M v v _ (by omega), h.2.2]
  · rw [if_neg q, if_neg q]
/-- one row more is kept; nothing is kept -/
def RG1 (M N : mm_M) (r : Nat → Int32) : Prop := (N.1 18 1).toInt = ((M.1 18 1).toInt + 1) % 10 ∧ ((M.1 18 2).toInt < 10 ∧ (N.1 18 2).toInt = (M.1 18 2).toInt + 1 ∨ (M.1 18 2).toInt = 10 ∧ (N.1 18 2).toInt = 10) ∧ ∀ j : Nat, j < 10 → skX N (s_p0 19 j) = if (j : Int) = (M.1 18 1).toInt then r else skX M (s_p0 19 j)
def RG0 (M N : mm_M) : Prop := N.1 18 = M.1 18 ∧ ∀ j : Nat, j < 10 → skX N (s_p0 19 j) = skX M (s_p0 19 j)
def RGI (a : Int) (M N : mm_M) (r : Nat → Int32) : Prop := (0 ≤ a → RG1 M N r) ∧ (a < 0 → RG0 M N)
def KPC (S : List Nat) (j : Nat) : Bool := decide (s_p0 19 j ∉ S ∧ s_p0 (s_p0 19 j) 1 ∉ S ∧ s_p0 (s_p0 19 j) 2 ∉ S)
theorem kp_f {S : List Nat} {M N : mm_M} (hf : FX S M N) {j : Nat} (h : KPC S j = true) : skX N (s_p0 19 j) = skX M (s_p0 19 j) := sk_f (ske_n hf (of_decide_eq_true h))
theorem rg_1 {S : List Nat} {M N : mm_M} {c : Nat} {r : Nat → Int32} (hf : FX S M N) (hS : ∀ j, j < 10 → j ≠ c → KPC S j = true) (hc : (M.1 18 1).toInt = (c : Int)) (h1 : (N.1 18 1).toInt = ((M.1 18 1).toInt + 1) % 10) (h2 : (M.1 18 2).toInt < 10 ∧ (N.1 18 2).toInt = (M.1 18 2).toInt + 1 ∨ (M.1 18 2).toInt = 10 ∧ (N.1 18 2).toInt = 10) (h3 : skX N (s_p0 19 c) = r) : b01 (RG1 M N r) = 1 := b01_i ⟨h1, h2, fun j hj => by
  by_cases q : j = c
  · rw [if_pos (by omega), q]; exact h3
  · rw [if_neg (by omega)]; exact kp_f hf (hS j hj q)⟩
/-- the ring of an earlier memory -/
theorem rg_m {S : List Nat} {M B N : mm_M} {r r' : Nat → Int32} (hf : FX S M B) (h18 : 18 ∉ S) (hS : ∀ j, j < 10 → KPC S j = true) (hr : r = r') (h : b01 (RG1 B N r) = 1) : b01 (RG1 M N r') = 1 := by
  subst hr
  have h := b01_e h
  refine b01_i ?_
  unfold RG1 at *
  rw [hf.cell h18] at h
  exact ⟨h.1, h.2.1, fun j hj => by rw [h.2.2 j hj, kp_f hf (hS j hj)]⟩
theorem rg_b {S : List Nat} {M N N' : mm_M} {r : Nat → Int32} (hf : FX S N N') (h18 : 18 ∉ S) (hS : ∀ j, j < 10 → KPC S j = true) (h : b01 (RG1 M N r) = 1) : b01 (RG1 M N' r) = 1 := by
  have h := b01_e h
  refine b01_i ?_
  unfold RG1 at *
  rw [hf.cell h18]
  exact ⟨h.1, h.2.1, fun j hj => by rw [kp_f hf (hS j hj)]; exact h.2.2 j hj⟩
theorem rg_0 {S : List Nat} {M N : mm_M} (hf : FX S M N) (h18 : 18 ∉ S) (hS : ∀ j, j < 10 → KPC S j = true) : b01 (RG0 M N) = 1 := b01_i ⟨hf.cell h18, fun j hj => kp_f hf (hS j hj)⟩
theorem rgi_y {a : Int} {M N : mm_M} {r : Nat → Int32} (h0 : 0 ≤ a) (h : b01 (RG1 M N r) = 1) : b01 (RGI a M N r) = 1 := b01_i ⟨fun _ => b01_e h, fun q => by omega⟩
theorem rgi_n {a : Int} {M N : mm_M} {r : Nat → Int32} (h0 : a < 0) (h : b01 (RG0 M N) = 1) : b01 (RGI a M N r) = 1 := b01_i ⟨fun q => by omega, fun _ => b01_e h⟩
theorem rgi_m {S : List Nat} {a : Int} {M B N : mm_M} {r r' : Nat → Int32} (hf : FX S M B) (h18 : 18 ∉ S) (hS : ∀ j, j < 10 → KPC S j = true) (hr : r = r') (h : b01 (RGI a B N r) = 1) : b01 (RGI a M N r') = 1 := by
  have h := b01_e h
  refine b01_i ⟨fun q => b01_e (rg_m hf h18 hS hr (b01_i (h.1 q))), fun q => ?_⟩
  have z := h.2 q
  exact ⟨z.1.trans (hf.cell h18), fun j hj => (z.2 j hj).trans (kp_f hf (hS j hj))⟩
/-- what undoing leaves: n rows fewer, the first of them as the stock -/
def RGU (M N : mm_M) (n : Int) (v : Nat) : Prop := (N.1 18 1).toInt = ((M.1 18 1).toInt - n) % 10 ∧ (N.1 18 2).toInt = (M.1 18 2).toInt - n ∧ (∀ j : Nat, j < 10 → skX N (s_p0 19 j) = skX M (s_p0 19 j)) ∧ skX N v = skX M (s_p0 19 (((M.1 18 1).toInt - n) % 10).toNat)
theorem rg_u {S : List Nat} {M N : mm_M} {n x : Int} {v : Nat} (hf : FX S M N) (hS : ∀ j, j < 10 → KPC S j = true) (h1 : (N.1 18 1).toInt = x) (hx : x = ((M.1 18 1).toInt - n) % 10) (h2 : (N.1 18 2).toInt = (M.1 18 2).toInt - n) (h3 : skX N v = skX M (s_p0 19 x.toNat)) : b01 (RGU M N n v) = 1 := by
  subst hx
  exact b01_i ⟨h1, h2, fun j hj => kp_f hf (hS j hj), h3⟩
theorem sk_of {M N : mm_M} {p v w : Nat} (h : skX N v = skX M w) {j : Nat} (hj : 26 ≤ j ∧ j < 49) : rwX N p v j = rwX M p w j := by rw [sk_r N p v hj, sk_r M p w hj, h]
/-! days, trays, seasons of the class -/
theorem dvb {N f g : Nat → Int32} {w : Int} (e : b01 (N = dvS w f g) = 1) (h : w = 0) : N = g := by rw [b01_e e, h]; exact dv_0 f g
theorem dvn {N f g : Nat → Int32} {w : Int} (e : b01 (N = dvS w f g) = 1) (h : ¬ w = 0) : N = f := by rw [b01_e e]; unfold dvS; rw [if_neg h]
theorem prr_e {f g : Nat → Int32} (e : g = f) (h : PRR f) : b01 (PRR g) = 1 := by rw [e]; exact b01_i h
theorem prr_b {f : Nat → Int32} (h : b01 (PRR f) = 1) : PRR f := b01_e h
theorem ds_x {f g N : Nat → Int32} {x x' a b : Int} (h : b01 (g = (dsS f x.toNat).1) = 1) (e : b01 (N = dvS (wnF g (-1)) g (doS g (-1))) = 1) (ha : a = (dsS f x.toNat).2) (hb : b = dyA g) (q : 0 ≤ x ∧ x' = x + 1) : b01 (N = (dsS f x'.toNat).1) = 1 ∧ a + b = (dsS f x'.toNat).2 := by
  have e' : b01 (N = dyS g) = 1 := b01_i ((dvb e (wn_m g)).trans (do_m g rfl))
  exact ds_w h e' ha hb q
/-- a tray's numbers, of the class -/
def tyX (M : mm_M) (t : Int) (i : Nat) : Int := (M.2.1 (s_p0 (s_p0 50 t.toNat) 0) i).toInt
def tsX (M : mm_M) (t : Int) : Int := (M.1 (s_p0 50 t.toNat) 2).toInt
noncomputable def tqX (M : mm_M) (f : Nat → Int32) (t : Int) : (Nat → Int32) × Int × Int := tlF f (tyX M t) (tsX M t).toNat
def ntX (M : mm_M) (t : Int) : Int := if t < 0 ∨ 3 < t then -2 else if tsX M t = -1 then -6 else 0
theorem ntX_s (M : mm_M) (t : Int) : ((t < 0 ∨ 3 < t) ∧ ntX M t = -2) ∨ ((0 ≤ t ∧ t ≤ 3) ∧ tsX M t = -1 ∧ ntX M t = -6) ∨ ((0 ≤ t ∧ t ≤ 3) ∧ ¬ tsX M t = -1 ∧ ntX M t = 0) := by
  unfold ntX; repeat' split
  all_goals omega
/-- a deed more of a tray: done, or the first that can't be -/
theorem tl_xy {f g N : Nat → Int32} {T : Nat → Int} {x x' v a : Int} (h : b01 (g = (tlF f T x.toNat).1) = 1) (h0 : (tlF f T x.toNat).2.1 = 0) (hv : v = T x.toNat) (hr : (wnF g v = 0 ∧ 0 ≤ a) ∨ (¬ wnF g v = 0 ∧ a = -10 - wnF g v)) (e : b01 (N = dvS (wnF g v) g (doS g v)) = 1) (q : 0 ≤ x ∧ x' = x + 1) : b01 (N = (tlF f T x'.toNat).1) = 1 ∧ ((0 ≤ a ∧ (tlF f T x'.toNat).2.1 = 0 ∧ (tlF f T x'.toNat).2.2 = x') ∨ (a < 0 ∧ (tlF f T x'.toNat).2.1 = -10 - a ∧ ¬ (tlF f T x'.toNat).2.1 = 0 ∧ (tlF f T x'.toNat).2.2 = x)) := by
  have h := b01_e h
  subst hv
  subst h
  have wb : 0 ≤ wnF (tlF f T x.toNat).1 (T x.toNat) := by
    have s := wnF_s (tlF f T x.toNat).1 (T x.toNat)
    have a1 := wvF_b (tlF f T x.toNat).1 (T x.toNat)
    have a2 := wkF_b (tlF f T x.toNat).1 (T x.toNat - 100)
    have a3 := wkF_b (tlF f T x.toNat).1 (T x.toNat - 200)
    have a4 := wpF_b (tlF f T x.toNat).1 ((T x.toNat - 1000) / 100) (T x.toNat % 100)
    omega
  by_cases w : wnF (tlF f T x.toNat).1 (T x.toNat) = 0
  · have s := tl_y f q.1 q.2 h0 w
    exact ⟨b01_i ((dvb e w).trans s.1.symm), Or.inl ⟨by omega, s.2.1, s.2.2⟩⟩
  · have s := tl_n f q.1 q.2 h0 w
    exact ⟨b01_i ((dvn e w).trans s.1.symm), Or.inr ⟨by omega, by omega, by omega, s.2.2⟩⟩
theorem tl_xe {f : Nat → Int32} {T : Nat → Int} {x n : Int} (h : ¬ (tlF f T x.toNat).2.1 = 0) (q : 0 ≤ x ∧ x ≤ n) : tlF f T n.toNat = tlF f T x.toNat := tl_x f n.toNat x.toNat (by omega) h
theorem seq_x {f g h N : Nat → Int32} {x x' v a c : Int} (hg : b01 (g = (seF f x.toNat).1) = 1) (hh : b01 (h = dnS g) = 1) (hv : v = dnV g) (hr : (wnF h v = 0 ∧ 0 ≤ a) ∨ (¬ wnF h v = 0 ∧ a = -10 - wnF h v)) (e : b01 (N = dvS (wnF h v) h (doS h v)) = 1) (hc : c = (seF f x.toNat).2) (q : 0 ≤ x ∧ x' = x + 1) : b01 (N = (seF f x'.toNat).1) = 1 ∧ ((0 ≤ a ∧ c + 1 = (seF f x'.toNat).2) ∨ (a < 0 ∧ c = (seF f x'.toNat).2)) := by
  have wb : 0 ≤ wnF h v := by
    have s := wnF_s h v
    have a1 := wvF_b h v
    have a2 := wkF_b h (v - 100)
    have a3 := wkF_b h (v - 200)
    have a4 := wpF_b h ((v - 1000) / 100) (v % 100)
    omega
  by_cases w : wnF h v = 0
  · have s := seq_y (N := N) (h' := h) (w := wnF h v) hg hh hv rfl w rfl (b01_i (dvb e w)) hc q
    exact ⟨s.1, Or.inl ⟨by omega, s.2⟩⟩
  · have s := seq_n (N := N) (w := wnF h v) hg hh hv rfl w (dvn e w) hc q
    exact ⟨s.1, Or.inr ⟨by omega, s.2⟩⟩
theorem rg_c {S : List Nat} {M B N : mm_M} (h : b01 (RG0 M B) = 1) (hf : FX S B N) (h18 : 18 ∉ S) (hS : ∀ j, j < 10 → KPC S j = true) : b01 (RG0 M N) = 1 := by
  have h := b01_e h
  exact b01_i ⟨(hf.cell h18).trans h.1, fun j hj => (kp_f hf (hS j hj)).trans (h.2 j hj)⟩
theorem rg_z {M B N : mm_M} {r r' : Nat → Int32} (h : b01 (RG0 M B) = 1) (hr : r = r') (h1 : b01 (RG1 B N r) = 1) : b01 (RG1 M N r') = 1 := by
  subst hr
  have h := b01_e h
  have h1 := b01_e h1
  refine b01_i ?_
  unfold RG1 at *
  rw [h.1] at h1
  exact ⟨h1.1, h1.2.1, fun j hj => by rw [h1.2.2 j hj, h.2 j hj]⟩
theorem rg_s (M : mm_M) : b01 (RG0 M M) = 1 := b01_i ⟨rfl, fun _ _ => rfl⟩
theorem ds_gf (f : Nat → Int32) : ∀ n : Nat, (dsS f n).1 30 = f 30
  | 0 => rfl
  | n + 1 => by
    have vs : ∀ (g : Nat → Int32) (b : Int), vsS g b 30 = g 30 := fun g b => by unfold vsS; rw [uR_n (by decide), uR_n (by decide)]
    have dg : ∀ g : Nat → Int32, dgS g 30 = g 30 := fun g => uR_n (by decide)
    have de : ∀ g : Nat → Int32, deS g 30 = g 30 := fun g => by unfold deS drS; rw [uR_n (by decide)]; exact dg g
    show dyS (dsS f n).1 30 = f 30
    rw [← ds_gf f n]
    unfold dyS
    repeat' split
    · exact dg _
    · rw [vs]; exact de _
    · exact de _
theorem sk_b {B N : mm_M} {v : Nat} {r : Nat → Int32} (h : SKE B N v) (e : b01 (skX B v = r) = 1) : b01 (skX N v = r) = 1 := b01_i ((sk_f h).trans (b01_e e))
