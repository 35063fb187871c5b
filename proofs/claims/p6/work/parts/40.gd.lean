/-! DEEDS on the reference's row -/
def uR (f : Nat → Int32) (k : Nat) (v : Int) : Nat → Int32 := fun j => if j = k then sI v else f j
theorem uR_w {M N : mm_M} {c k : Nat} {v : Int} (e : N = wI M c k (sI v)) : N.1 c = uR (M.1 c) k v := by
  rw [e]
  funext j
  unfold uR
  by_cases h : j = k
  · rw [if_pos h, h]; exact u2_s _ _ _ _
  · rw [if_neg h]; exact u2_b _ _ h
theorem wI_at {M N : mm_M} {c k : Nat} {v : Int32} (e : N = wI M c k v) : N.1 c k = v := by rw [e]; exact u2_s _ _ _ _
theorem uR_n {f : Nat → Int32} {k j : Nat} {v : Int} (h : j ≠ k) : uR f k v j = f j := if_neg h
theorem uR_s {f : Nat → Int32} {k : Nat} {v : Int} : uR f k v k = sI v := if_pos rfl
theorem rw_t {M N : mm_M} {c : Nat} {f g : Nat → Int32} (e : N.1 c = M.1 c) (h : M.1 c = f) (q : f = g) : N.1 c = g := e.trans (h.trans q)
/-- a remainder, a draw: words that omega doesn't look into -/
noncomputable def rmI : Int → Int → Int := Classical.choose (⟨fun a b => a % b, fun _ _ => rfl⟩ : ∃ g : Int → Int → Int, ∀ a b, g a b = a % b)
theorem rmI_e (a b : Int) : rmI a b = a % b := Classical.choose_spec (⟨fun a b => a % b, fun _ _ => rfl⟩ : ∃ g : Int → Int → Int, ∀ a b, g a b = a % b) a b
noncomputable def mlN : Int → Int := Classical.choose (⟨fun a => mulI 1103515245 a, fun _ => rfl⟩ : ∃ g : Int → Int, ∀ a, g a = mulI 1103515245 a)
theorem mlN_e (a : Int) : mlN a = mulI 1103515245 a := Classical.choose_spec (⟨fun a => mulI 1103515245 a, fun _ => rfl⟩ : ∃ g : Int → Int, ∀ a, g a = mulI 1103515245 a) a
noncomputable def dxF (x : Int) : Int := addI (mlN x) 12345
noncomputable def dwF (x : Int) : Int := ushrI (dxF x) 16
section YGD
variable {p : Program} {l : Launch} {e : Env} {R : Room} {s : State} {m : MethodId} {args : Array Value} {below : List Frame} {meth : Method} {c : Code} {cells slots : Nat} {Q : State → Prop} {cc : ByteArray} {nL : Nat} {own : String} {Ts : List Cond} {dC : Nat → ClassId} {dI : Nat → Nat → Nat} {ad : Nat → Nat} {cA : Nat → ClassId} {A : Nat → Prop} {M Kz : mm_M} {pr : Nat → Nat → Bool} {pc : Nat} {lv : List (Nat × Value)} {st : List Value}
theorem e_irem (C : jj_C p R s m args c cells slots cc nL own Ts dC dI ad cA A) {a b : Int} (d : decode cc pc = .ok (.irem, 1)) (h : 0 ≤ a ∧ a ≤ 2147483647 ∧ 0 < b ∧ b ≤ 2147483647) (k : 0 ≤ rmI a b → rmI a b < b → jj p l e R s m args below meth c cells slots Q nL dC dI ad cA A M (pc + 1) lv (.int (sI (rmI a b)) :: st)) : jj p l e R s m args below meth c cells slots Q nL dC dI ad cA A M pc lv (.int (sI b) :: .int (sI a) :: st) := by
  rw [rmI_e] at k
  exact z_irem C _ (sI_rem ⟨h.1, h.2.1⟩ h.2.2) (sI_ne (by omega) (by omega)) d (k (Int.emod_nonneg a (by omega)) (Int.emod_lt_of_pos a h.2.2.1))
theorem y_imulN (C : jj_C p R s m args c cells slots cc nL own Ts dC dI ad cA A) {b : Int} (d : decode cc pc = .ok (.imul, 1)) (k : ∀ r : Int, -2147483648 ≤ r → r ≤ 2147483647 → r = mlN b → jj p l e R s m args below meth c cells slots Q nL dC dI ad cA A M (pc + 1) lv (.int (sI r) :: st)) : jj p l e R s m args below meth c cells slots Q nL dC dI ad cA A M pc lv (.int (sI b) :: .int (sI 1103515245) :: st) := z_imul C (sI (sI 1103515245 * sI b).toInt) (sI_o _).symm d (k _ (sI_r _).1 (sI_r _).2 (mlN_e b).symm)
end YGD
section GD
variable (f : Nat → Int32)
def wvF (b : Int) : Int := if b < 0 ∨ (f 1).toInt ≤ b then 1 else if shF f (f 27).toInt = 1 then 2 else if bnF f b = -1 then 3 else 0
def wkF (k : Int) : Int := if k < 0 ∨ (f 26).toInt ≤ k then 1 else if shF f (f 27).toInt = 1 then 2 else 0
def wpF (k n : Int) : Int := if k < 0 ∨ (f 26).toInt ≤ k ∨ n < 1 ∨ 99 < n then 1 else if shF f (f 27).toInt = 1 then 2 else 0
def waF (n g : Int) : Int := if n < 1 ∨ 99 < n ∨ g < 0 ∨ 9 < g then 1 else if shF f (f 27).toInt = 1 then 2 else if (f 26).toInt = 8 then 3 else 0
theorem wvF_s (b : Int) : ((b < 0 ∨ (f 1).toInt ≤ b) ∧ wvF f b = 1) ∨ ((0 ≤ b ∧ b < (f 1).toInt) ∧ ((shF f (f 27).toInt = 1 ∧ wvF f b = 2) ∨ (¬ shF f (f 27).toInt = 1 ∧ bnF f b = -1 ∧ wvF f b = 3) ∨ (¬ shF f (f 27).toInt = 1 ∧ ¬ bnF f b = -1 ∧ wvF f b = 0))) := by
  unfold wvF; repeat' split
  all_goals omega
theorem wkF_s (k : Int) : ((k < 0 ∨ (f 26).toInt ≤ k) ∧ wkF f k = 1) ∨ ((0 ≤ k ∧ k < (f 26).toInt) ∧ ((shF f (f 27).toInt = 1 ∧ wkF f k = 2) ∨ (¬ shF f (f 27).toInt = 1 ∧ wkF f k = 0))) := by
  unfold wkF; repeat' split
  all_goals omega
theorem wpF_s (k n : Int) : ((k < 0 ∨ (f 26).toInt ≤ k ∨ n < 1 ∨ 99 < n) ∧ wpF f k n = 1) ∨ ((0 ≤ k ∧ k < (f 26).toInt ∧ 1 ≤ n ∧ n ≤ 99) ∧ ((shF f (f 27).toInt = 1 ∧ wpF f k n = 2) ∨ (¬ shF f (f 27).toInt = 1 ∧ wpF f k n = 0))) := by
  unfold wpF; repeat' split
  all_goals omega
theorem waF_s (n g : Int) : ((n < 1 ∨ 99 < n ∨ g < 0 ∨ 9 < g) ∧ waF f n g = 1) ∨ ((1 ≤ n ∧ n ≤ 99 ∧ 0 ≤ g ∧ g ≤ 9) ∧ ((shF f (f 27).toInt = 1 ∧ waF f n g = 2) ∨ (¬ shF f (f 27).toInt = 1 ∧ (f 26).toInt = 8 ∧ waF f n g = 3) ∨ (¬ shF f (f 27).toInt = 1 ∧ ¬ (f 26).toInt = 8 ∧ waF f n g = 0))) := by
  unfold waF; repeat' split
  all_goals omega
/-! what they do -/
def vsS (b : Int) : Nat → Int32 := uR (uR f 27 (orI (f 27).toInt (pw2 (bnF f b)))) 29 (addI (f 29).toInt (f (33 + bnF f b).toNat).toInt)
def gsS : Nat → Int32 := uR f 30 (addI (f 30).toInt 1)
def hsS (k : Int) : Nat → Int32 := uR f 28 (xorI (f 28).toInt (pw2 k))
def psS (k n : Int) : Nat → Int32 := uR f (33 + k).toNat n
def asS (n g : Int) : Nat → Int32 := uR (uR (uR f 26 ((f 26).toInt + 1)) (33 + (f 26).toInt).toNat n) (41 + (f 26).toInt).toNat g
noncomputable def drS : Nat → Int32 := uR f 32 (dxF (f 32).toInt)
noncomputable def drF (b : Int) : Int := rmI (dwF (f 32).toInt) b
/-- who comes: the first whose odds and those of all ahead are above the draw -/
def coR : Nat → Int → Int → Int
  | 0, b, _ => b
  | n + 1, b, l => if (f (20 + b).toNat).toInt ≤ l then coR n (b + 1) (l - (f (20 + b).toNat).toInt) else b
theorem coR_s {b l : Int} (h : b < 6) : ((f (20 + b).toNat).toInt ≤ l ∧ coR f (6 - b).toNat b l = coR f (6 - (b + 1)).toNat (b + 1) (l - (f (20 + b).toNat).toInt)) ∨ (¬ (f (20 + b).toNat).toInt ≤ l ∧ coR f (6 - b).toNat b l = b) := by
  rw [show (6 - b).toNat = (6 - (b + 1)).toNat + 1 by omega, coR]
  split
  · exact Or.inl ⟨by assumption, rfl⟩
  · exact Or.inr ⟨by assumption, rfl⟩
def ogF : Int := psF f (f 1).toInt.toNat
/-- a day: the row with the day counted, with the draw made; who comes; what is bought -/
def dgS : Nat → Int32 := uR f 31 (addI (f 31).toInt 1)
noncomputable def deS : Nat → Int32 := drS (dgS f)
noncomputable def dcF : Int := coR (deS f) 6 0 (drF (dgS f) (ogF (dgS f)))
noncomputable def dyA : Int := if ogF (dgS f) = 0 then 0 else if wvF (deS f) (dcF f) = 0 then 1 else 0
noncomputable def dyS : Nat → Int32 := if ogF (dgS f) = 0 then dgS f else if wvF (deS f) (dcF f) = 0 then vsS (deS f) (dcF f) else deS f
theorem dy_0 (h : ogF (dgS f) = 0) : dyA f = 0 ∧ dyS f = dgS f := by unfold dyA dyS; rw [if_pos h, if_pos h]; exact ⟨rfl, rfl⟩
theorem dy_1 (h : ¬ ogF (dgS f) = 0) (h2 : wvF (deS f) (dcF f) = 0) : dyA f = 1 ∧ dyS f = vsS (deS f) (dcF f) := by unfold dyA dyS; rw [if_neg h, if_neg h, if_pos h2, if_pos h2]; exact ⟨rfl, rfl⟩
theorem dy_2 (h : ¬ ogF (dgS f) = 0) (h2 : ¬ wvF (deS f) (dcF f) = 0) : dyA f = 0 ∧ dyS f = deS f := by unfold dyA dyS; rw [if_neg h, if_neg h, if_neg h2, if_neg h2]; exact ⟨rfl, rfl⟩
theorem dyA_b : 0 ≤ dyA f ∧ dyA f ≤ 1 := by unfold dyA; repeat' split
                                            all_goals omega
/-- n days: the row, how much was bought -/
noncomputable def dsS : Nat → (Nat → Int32) × Int
  | 0 => (f, 0)
  | n + 1 => (dyS (dsS n).1, (dsS n).2 + dyA (dsS n).1)
theorem ds_s {k k' : Int} (h : 0 ≤ k) (hk : k' = k + 1) : (dsS f k'.toNat).1 = dyS (dsS f k.toNat).1 ∧ (dsS f k'.toNat).2 = (dsS f k.toNat).2 + dyA (dsS f k.toNat).1 := by
  subst hk
  rw [show (k + 1).toNat = k.toNat + 1 by omega, dsS]
  exact ⟨rfl, rfl⟩
/-! a deed as a tray tells it -/
def wnF (v : Int) : Int := if v = -1 then 0 else if 0 ≤ v ∧ v ≤ 9 then wvF f v else if 100 ≤ v ∧ v ≤ 109 then wkF f (v - 100) else if 200 ≤ v ∧ v ≤ 209 then wkF f (v - 200) else if 1000 ≤ v ∧ v ≤ 1999 then wpF f ((v - 1000) / 100) (v % 100) else 1
theorem wnF_s (v : Int) : (v = -1 ∧ wnF f v = 0) ∨ ((0 ≤ v ∧ v ≤ 9) ∧ wnF f v = wvF f v) ∨ ((100 ≤ v ∧ v ≤ 109) ∧ wnF f v = wkF f (v - 100)) ∨ ((200 ≤ v ∧ v ≤ 209) ∧ wnF f v = wkF f (v - 200)) ∨ ((1000 ≤ v ∧ v ≤ 1999) ∧ wnF f v = wpF f ((v - 1000) / 100) (v % 100)) ∨ ((¬ v = -1 ∧ ¬ (0 ≤ v ∧ v ≤ 9) ∧ ¬ (100 ≤ v ∧ v ≤ 109) ∧ ¬ (200 ≤ v ∧ v ≤ 209) ∧ ¬ (1000 ≤ v ∧ v ≤ 1999)) ∧ wnF f v = 1) := by
  unfold wnF; repeat' split
  all_goals omega
noncomputable def doS (v : Int) : Nat → Int32 := if v = -1 then dyS f else if v < 100 then vsS f v else if v < 200 then gsS f else if v < 1000 then hsS f (v - 200) else psS f ((v - 1000) / 100) (v % 100)
theorem do_m {v : Int} (h : v = -1) : doS f v = dyS f := by unfold doS; rw [if_pos h]
theorem do_v {v : Int} (h : 0 ≤ v ∧ v < 100) : doS f v = vsS f v := by unfold doS; rw [if_neg (by omega), if_pos h.2]
theorem do_g {v : Int} (h : 100 ≤ v ∧ v < 200) : doS f v = gsS f := by unfold doS; rw [if_neg (by omega), if_neg (by omega), if_pos h.2]
theorem do_h {v : Int} (h : 200 ≤ v ∧ v < 1000) : doS f v = hsS f (v - 200) := by unfold doS; rw [if_neg (by omega), if_neg (by omega), if_neg (by omega), if_pos h.2]
theorem do_p {v : Int} (h : 1000 ≤ v) : doS f v = psS f ((v - 1000) / 100) (v % 100) := by unfold doS; rw [if_neg (by omega), if_neg (by omega), if_neg (by omega), if_neg (by omega)]
/-- the deeds of a tray till one can't be: the row, why not, how many were done -/
noncomputable def tlF (T : Nat → Int) : Nat → (Nat → Int32) × Int × Int
  | 0 => (f, 0, 0)
  | n + 1 => if (tlF T n).2.1 = 0 then (if wnF (tlF T n).1 (T n) = 0 then (doS (tlF T n).1 (T n), 0, (n : Int) + 1) else ((tlF T n).1, wnF (tlF T n).1 (T n), (n : Int))) else tlF T n
theorem tl_y {T : Nat → Int} {k k' : Int} (h : 0 ≤ k) (hk : k' = k + 1) (h0 : (tlF f T k.toNat).2.1 = 0) (h1 : wnF (tlF f T k.toNat).1 (T k.toNat) = 0) : (tlF f T k'.toNat).1 = doS (tlF f T k.toNat).1 (T k.toNat) ∧ (tlF f T k'.toNat).2.1 = 0 ∧ (tlF f T k'.toNat).2.2 = k' := by
  subst hk
  rw [show (k + 1).toNat = k.toNat + 1 by omega, tlF, if_pos h0, if_pos h1]
  exact ⟨rfl, rfl, by show ((k.toNat : Nat) : Int) + 1 = k + 1; omega⟩
theorem tl_n {T : Nat → Int} {k k' : Int} (h : 0 ≤ k) (hk : k' = k + 1) (h0 : (tlF f T k.toNat).2.1 = 0) (h1 : ¬ wnF (tlF f T k.toNat).1 (T k.toNat) = 0) : (tlF f T k'.toNat).1 = (tlF f T k.toNat).1 ∧ (tlF f T k'.toNat).2.1 = wnF (tlF f T k.toNat).1 (T k.toNat) ∧ (tlF f T k'.toNat).2.2 = k := by
  subst hk
  rw [show (k + 1).toNat = k.toNat + 1 by omega, tlF, if_pos h0, if_neg h1]
  exact ⟨rfl, rfl, by show ((k.toNat : Nat) : Int) = k; omega⟩
theorem tl_x {T : Nat → Int} : ∀ (j n : Nat), n ≤ j → ¬ (tlF f T n).2.1 = 0 → tlF f T j = tlF f T n
  | 0, n, h, _ => by rw [show n = 0 by omega]
  | j + 1, n, h, h0 => by
    by_cases q : n = j + 1
    · rw [q]
    · have ih := tl_x j n (by omega) h0
      rw [tlF, ih, if_neg h0]
/-! what was: the stock's row as kept, as noted, as brought back -/
def kpF : Nat → Int32 := fun j => f (26 + j)
def iaF (w : Nat → Int32) (k : Nat) : Nat → Int32 := fun j => if 26 ≤ j ∧ j < 26 + k then w (j - 26) else f j
def shS (k : Nat) : Nat → Int32 := fun j => if 50 ≤ j ∧ j < 50 + k then f (j + 23) else f j
def wrS (w : Nat → Int32) (n k : Nat) : Nat → Int32 := fun j => if 50 + 23 * n ≤ j ∧ j < 50 + 23 * n + k then w (j - (50 + 23 * n)) else f j
def n1F : Nat → Int32 := if (f 49).toInt = 10 then uR (shS f 207) 49 9 else f
def ntF (w : Nat → Int32) : Nat → Int32 := uR (wrS (n1F f) w (n1F f 49).toInt.toNat 23) 49 ((n1F f 49).toInt + 1)
def unF (n k : Nat) : Nat → Int32 := fun j => if 26 ≤ j ∧ j < 26 + k then f (50 + 23 * n + (j - 26)) else f j
/-- a deed that can be undone -/
def puF (g : Nat → Int32) : Nat → Int32 := ntF g (kpF f)
end GD
/-! the reference's walk: rows behind writes -/
theorem vs_w {M M1 N : mm_M} {f : Nat → Int32} {b k p : Int} (hf : M.1 99 = f) (e2 : M1 = wI M 99 27 (sI (orI (f 27).toInt (pw2 k)))) (e1 : N = wI M1 99 29 (sI (addI (f 29).toInt p))) (q : k = bnF f b ∧ 0 ≤ k ∧ p = (M1.1 99 (33 + k).toNat).toInt) : b01 (N.1 99 = vsS f b) = 1 := b01_i (by
  obtain ⟨rfl, h0, rfl⟩ := q
  rw [uR_w e1, uR_w e2, hf]
  unfold vsS
  rw [uR_n (show (33 + bnF f b).toNat ≠ 27 by omega)])
theorem dr_w {M N : mm_M} {f : Nat → Int32} {r : Int} (hf : M.1 99 = f) (e : N = wI M 99 32 (sI (addI r 12345))) (h : r = mlN (f 32).toInt) : b01 (N.1 99 = drS f) = 1 := b01_i (by
  rw [uR_w e, hf, h]; rfl)
theorem dr_a {M N : mm_M} {f : Nat → Int32} {r : Int} (e : N = wI M 99 32 (sI (addI r 12345))) (h : r = mlN (f 32).toInt) (b : Int) : rmI (ushrI (N.1 99 32).toInt 16) b = drF f b := by
  have : (N.1 99 32).toInt = addI r 12345 := by rw [wI_at e]; exact sI_t (sI_r _)
  rw [this, h]; rfl
theorem dg_w {M N : mm_M} {f : Nat → Int32} (hf : M.1 99 = f) (e : N = wI M 99 31 (sI (addI (f 31).toInt 1))) : N.1 99 = dgS f := by rw [uR_w e, hf]; rfl
theorem dy_i {f g h : Nat → Int32} {a : Int} (hg : g = dgS f) (hr : b01 (h = drS g) = 1) (ha : a = drF g (psF g (g 1).toInt.toNat)) : coR h (6 - 0 : Int).toNat 0 a = dcF f ∧ h = deS f := by
  have hr := b01_e hr
  subst hg
  subst hr
  subst ha
  exact ⟨rfl, rfl⟩
theorem dy_r0 {f g : Nat → Int32} (hg : g = dgS f) (h : psF g (g 1).toInt.toNat = 0) : dyA f = 0 ∧ b01 (g = dyS f) = 1 := by
  subst hg
  have := dy_0 f h
  exact ⟨this.1, b01_i this.2.symm⟩
theorem dy_r1 {f g h h' N : Nat → Int32} {c : Int} (hg : g = dgS f) (hh : h = deS f) (h2 : h' = h) (e : b01 (N = vsS h' c) = 1) (ho : ¬ psF g (g 1).toInt.toNat = 0) (hc : c = dcF f) (hw : wvF h c = 0) : dyA f = 1 ∧ b01 (N = dyS f) = 1 := by
  have e := b01_e e
  subst hg
  subst hh
  subst h2
  subst hc
  have := dy_1 f ho hw
  exact ⟨this.1, b01_i (e.trans this.2.symm)⟩
theorem dy_r2 {f g h h' : Nat → Int32} {c : Int} (hg : g = dgS f) (hh : h = deS f) (h2 : h' = h) (ho : ¬ psF g (g 1).toInt.toNat = 0) (hc : c = dcF f) (hw : ¬ wvF h c = 0) : dyA f = 0 ∧ b01 (h' = dyS f) = 1 := by
  subst hg
  subst hh
  subst h2
  subst hc
  have := dy_2 f ho hw
  exact ⟨this.1, b01_i this.2.symm⟩
def KPN (M : mm_M) (f : Nat → Int32) (x : Int) : Prop := ∀ k : Nat, (k : Int) < x → M.1 105 k = f (26 + k)
theorem kn_0 (M : mm_M) (f : Nat → Int32) : b01 (KPN M f 0) = 1 := b01_i (fun k h => by omega)
theorem kn_s {M N : mm_M} {f : Nat → Int32} {x x' : Int} (h : b01 (KPN M f x) = 1) (e : N = wI M 105 x.toNat (sI (f (26 + x).toNat).toInt)) (q : 0 ≤ x ∧ x' = x + 1) : b01 (KPN N f x') = 1 := b01_i (fun k hk => by
  by_cases c : k = x.toNat
  · rw [c, wI_at e, sI_o, show (26 + x).toNat = 26 + x.toNat by omega]
  · rw [wI_ne e c]; exact b01_e h k (by omega))
theorem kn_f {M N : mm_M} {f : Nat → Int32} {x : Int} (h : b01 (KPN M f x) = 1) (e : N.1 105 = M.1 105) : b01 (KPN N f x) = 1 := b01_i (by unfold KPN; rw [e]; exact b01_e h)
theorem ia_0 (f w : Nat → Int32) : b01 (f = iaF f w (0 : Int).toNat) = 1 := b01_i (by funext j; unfold iaF; rw [if_neg (by omega)])
theorem ia_s {M N : mm_M} {f w : Nat → Int32} {x x' : Int} (h : b01 (M.1 99 = iaF f w x.toNat) = 1) (e : N = wI M 99 (26 + x).toNat (sI (w x.toNat).toInt)) (q : 0 ≤ x ∧ x' = x + 1) : b01 (N.1 99 = iaF f w x'.toNat) = 1 := b01_i (by
  rw [uR_w e, b01_e h]
  funext j
  unfold uR iaF
  by_cases c : j = (26 + x).toNat
  · rw [if_pos c, if_pos (by omega), sI_o, show j - 26 = x.toNat by omega]
  · rw [if_neg c]
    by_cases d : 26 ≤ j ∧ j < 26 + x.toNat
    · rw [if_pos d, if_pos (by omega)]
    · rw [if_neg d, if_neg (by omega)])
theorem ia_k {M N : mm_M} {f g : Nat → Int32} (e : b01 (N.1 99 = iaF g (M.1 105) 23) = 1) (hk : b01 (KPN M f 23) = 1) (hg : ∀ j, (j < 26 ∨ 49 ≤ j) → g j = f j) : b01 (N.1 99 = f) = 1 := b01_i (by
  rw [b01_e e]
  funext j
  unfold iaF
  by_cases c : 26 ≤ j ∧ j < 26 + 23
  · rw [if_pos c, b01_e hk (j - 26) (by omega), show 26 + (j - 26) = j by omega]
  · rw [if_neg c]; exact hg j (by omega))
theorem sh_0 (f : Nat → Int32) : b01 (f = shS f (0 : Int).toNat) = 1 := b01_i (by funext j; unfold shS; rw [if_neg (by omega)])
theorem sh_s {M N : mm_M} {f : Nat → Int32} {x x' : Int} {v : Int32} (h : b01 (M.1 99 = shS f x.toNat) = 1) (e : N = wI M 99 (50 + x).toNat v) (hv : v = M.1 99 (73 + x).toNat) (q : 0 ≤ x ∧ x' = x + 1) : b01 (N.1 99 = shS f x'.toNat) = 1 := b01_i (by
  have h := b01_e h
  have hv : v = f (73 + x).toNat := by rw [hv, h]; unfold shS; rw [if_neg (by omega)]
  funext j
  by_cases c : j = (50 + x).toNat
  · rw [c, wI_at e, hv]
    unfold shS
    rw [if_pos (by omega), show (50 + x).toNat + 23 = (73 + x).toNat by omega]
  · rw [wI_ne e c, h]
    unfold shS
    by_cases d : 50 ≤ j ∧ j < 50 + x.toNat
    · rw [if_pos d, if_pos (by omega)]
    · rw [if_neg d, if_neg (by omega)])
theorem n1_y {M N : mm_M} {f : Nat → Int32} {x : Int} (h : b01 (M.1 99 = shS f (207 : Int).toNat) = 1) (e : N = wI M 99 49 (sI x)) (q : (f 49).toInt = 10 ∧ x = 9) : b01 (N.1 99 = n1F f) = 1 := b01_i (by
  rw [uR_w e, b01_e h, q.2]; unfold n1F; rw [if_pos q.1]; rfl)
theorem n1_n {f : Nat → Int32} (h : ¬ (f 49).toInt = 10) : b01 (f = n1F f) = 1 := b01_i (by unfold n1F; rw [if_neg h])
theorem wr_0 {f g : Nat → Int32} (w : Nat → Int32) (n : Nat) (h : b01 (f = g) = 1) : b01 (f = wrS g w n (0 : Int).toNat) = 1 := b01_i (by rw [b01_e h]; funext j; unfold wrS; rw [if_neg (by omega)])
theorem wr_s {M N : mm_M} {f w : Nat → Int32} {x x' y : Int} {n : Nat} (h : b01 (M.1 99 = wrS f w n x.toNat) = 1) (e : N = wI M 99 y.toNat (sI (w x.toNat).toInt)) (q : 0 ≤ x ∧ x' = x + 1 ∧ y = 50 + 23 * (n : Int) + x) : b01 (N.1 99 = wrS f w n x'.toNat) = 1 := b01_i (by
  rw [uR_w e, b01_e h]
  funext j
  unfold uR wrS
  by_cases c : j = y.toNat
  · rw [if_pos c, if_pos (by omega), sI_o, show j - (50 + 23 * n) = x.toNat by omega]
  · rw [if_neg c]
    by_cases d : 50 + 23 * n ≤ j ∧ j < 50 + 23 * n + x.toNat
    · rw [if_pos d, if_pos (by omega)]
    · rw [if_neg d, if_neg (by omega)])
theorem wr_49 (f w : Nat → Int32) (n k : Nat) : wrS f w n k 49 = f 49 := by unfold wrS; rw [if_neg (by omega)]
theorem nt_w {M N : mm_M} {f w : Nat → Int32} {n : Nat} {v : Int} (h : b01 (M.1 99 = wrS (n1F f) w n (23 : Int).toNat) = 1) (e : N = wI M 99 49 (sI (v + 1))) (q : (n1F f 49).toInt.toNat = n ∧ v = (M.1 99 49).toInt) : b01 (N.1 99 = ntF f w) = 1 := b01_i (by
  have h := b01_e h
  rw [q.2, h, wr_49] at e
  rw [uR_w e, h]
  unfold ntF
  rw [q.1]; rfl)
theorem nt_k {N g w f : Nat → Int32} (e : b01 (N = ntF g w) = 1) (hk : ∀ k : Nat, (k : Int) < 23 → w k = f (26 + k)) : b01 (N = ntF g (kpF f)) = 1 := b01_i (by
  rw [b01_e e]
  unfold ntF
  congr 1
  funext j
  unfold wrS
  by_cases c : 50 + 23 * (n1F g 49).toInt.toNat ≤ j ∧ j < 50 + 23 * (n1F g 49).toInt.toNat + 23
  · rw [if_pos c, if_pos c, hk _ (by omega)]; rfl
  · rw [if_neg c, if_neg c])
theorem un_0 {f g : Nat → Int32} (n : Nat) (h : f = g) : b01 (f = unF g n (0 : Int).toNat) = 1 := b01_i (by rw [h]; funext j; unfold unF; rw [if_neg (by omega)])
theorem un_s {M N : mm_M} {f : Nat → Int32} {x x' y : Int} {n : Nat} {v : Int32} (h : b01 (M.1 99 = unF f n x.toNat) = 1) (e : N = wI M 99 (26 + x).toNat v) (hv : v = M.1 99 y.toNat) (q : 0 ≤ x ∧ x < 23 ∧ x' = x + 1 ∧ y = 50 + 23 * (n : Int) + x) : b01 (N.1 99 = unF f n x'.toNat) = 1 := b01_i (by
  have h := b01_e h
  have hv : v = f (50 + 23 * n + x.toNat) := by rw [hv, h]; unfold unF; rw [if_neg (by omega), show y.toNat = 50 + 23 * n + x.toNat by omega]
  funext j
  by_cases c : j = (26 + x).toNat
  · rw [c, wI_at e, hv]
    unfold unF
    rw [if_pos (by omega), show (26 + x).toNat - 26 = x.toNat by omega]
  · rw [wI_ne e c, h]
    unfold unF
    by_cases d : 26 ≤ j ∧ j < 26 + x.toNat
    · rw [if_pos d, if_pos (by omega)]
    · rw [if_neg d, if_neg (by omega)])
def unS (f : Nat → Int32) (n : Int) : Nat → Int32 := unF (uR f 49 ((f 49).toInt - n)) ((f 49).toInt - n).toNat 23
/-! what is asked -/
def wbF (f : Nat → Int32) (k : Int) : Nat → Int
  | 0 => 0
  | n + 1 => orI (wbF f k n) (if bnF f (n : Int) = k then pw2 (n : Int) else 0)
theorem wb_s (f : Nat → Int32) (k : Int) {x x' a : Int} (h : 0 ≤ x) (hx : x' = x + 1) (ha : a = wbF f k x.toNat) : (bnF f x = k ∧ wbF f k x'.toNat = orI a (pw2 x)) ∨ (¬ bnF f x = k ∧ wbF f k x'.toNat = orI a 0) := by
  subst hx
  subst ha
  rw [show (x + 1).toNat = x.toNat + 1 by omega, wbF, show ((x.toNat : Nat) : Int) = x by omega]
  split
  · exact Or.inl ⟨by assumption, rfl⟩
  · exact Or.inr ⟨by assumption, rfl⟩
def mwF (f : Nat → Int32) (b : Int) : Nat → Int
  | 0 => 0
  | n + 1 => orI (mwF f b n) (if mbF f b (n : Int) (f 27).toInt = 0 then 0 else pw2 (n : Int))
theorem mw_s (f : Nat → Int32) (b : Int) {x x' a : Int} (h : 0 ≤ x) (hx : x' = x + 1) (ha : a = mwF f b x.toNat) : (¬ mbF f b x (f 27).toInt = 0 ∧ mwF f b x'.toNat = orI a (pw2 x)) ∨ (mbF f b x (f 27).toInt = 0 ∧ mwF f b x'.toNat = orI a 0) := by
  subst hx
  subst ha
  rw [show (x + 1).toNat = x.toNat + 1 by omega, mwF, show ((x.toNat : Nat) : Int) = x by omega]
  split
  · exact Or.inr ⟨by assumption, rfl⟩
  · exact Or.inl ⟨by assumption, rfl⟩
def knF (f : Nat → Int32) (k w : Int) : Int := if k < 0 ∨ (f 26).toInt ≤ k then -2 else if w = 0 then (f (33 + k).toNat).toInt else if w = 1 then (f (41 + k).toNat).toInt else if w = 2 then andI (shrI (f 27).toInt k) 1 else if w = 3 then andI (shrI (f 28).toInt k) 1 else if w = 4 then wbF f k (f 1).toInt.toNat else -2
theorem knF_s (f : Nat → Int32) (k w : Int) : ((k < 0 ∨ (f 26).toInt ≤ k) ∧ knF f k w = -2) ∨ ((0 ≤ k ∧ k < (f 26).toInt) ∧ ((w = 0 ∧ knF f k w = (f (33 + k).toNat).toInt) ∨ (w = 1 ∧ knF f k w = (f (41 + k).toNat).toInt) ∨ (w = 2 ∧ knF f k w = andI (shrI (f 27).toInt k) 1) ∨ (w = 3 ∧ knF f k w = andI (shrI (f 28).toInt k) 1) ∨ (w = 4 ∧ knF f k w = wbF f k (f 1).toInt.toNat) ∨ ((¬ w = 0 ∧ ¬ w = 1 ∧ ¬ w = 2 ∧ ¬ w = 3 ∧ ¬ w = 4) ∧ knF f k w = -2))) := by
  unfold knF; repeat' split
  all_goals omega
def byF (f : Nat → Int32) (b w : Int) : Int := if b < 0 ∨ (f 1).toInt ≤ b then -2 else if w = 0 then (f (8 + b).toNat).toInt else if w = 1 then (f (14 + b).toNat).toInt else if w = 2 then (f (20 + b).toNat).toInt else if w = 3 then mwF f b (f 26).toInt.toNat else if w = 4 then bnF f b else -2
theorem byF_s (f : Nat → Int32) (b w : Int) : ((b < 0 ∨ (f 1).toInt ≤ b) ∧ byF f b w = -2) ∨ ((0 ≤ b ∧ b < (f 1).toInt) ∧ ((w = 0 ∧ byF f b w = (f (8 + b).toNat).toInt) ∨ (w = 1 ∧ byF f b w = (f (14 + b).toNat).toInt) ∨ (w = 2 ∧ byF f b w = (f (20 + b).toNat).toInt) ∨ (w = 3 ∧ byF f b w = mwF f b (f 26).toInt.toNat) ∨ (w = 4 ∧ byF f b w = bnF f b) ∨ ((¬ w = 0 ∧ ¬ w = 1 ∧ ¬ w = 2 ∧ ¬ w = 3 ∧ ¬ w = 4) ∧ byF f b w = -2))) := by
  unfold byF; repeat' split
  all_goals omega
def wsF (f : Nat → Int32) (b k : Int) : Int := if (b < 0 ∨ (f 1).toInt ≤ b) ∨ (k < 0 ∨ (f 26).toInt ≤ k) then -99000002 else wtF f b k (f 27).toInt
theorem wsF_s (f : Nat → Int32) (b k : Int) : (((b < 0 ∨ (f 1).toInt ≤ b) ∨ (k < 0 ∨ (f 26).toInt ≤ k)) ∧ wsF f b k = -99000002) ∨ ((0 ≤ b ∧ b < (f 1).toInt) ∧ (0 ≤ k ∧ k < (f 26).toInt) ∧ wsF f b k = wtF f b k (f 27).toInt) := by
  unfold wsF; repeat' split
  all_goals omega
/-! places that no deed writes -/
def SM49 (f g : Nat → Int32) : Prop := ∀ j, (j < 26 ∨ 49 ≤ j) → g j = f j
theorem smq_t {f g h : Nat → Int32} (a : SM49 f g) (b : SM49 g h) : SM49 f h := fun j hj => (b j hj).trans (a j hj)
theorem smq_u {f g : Nat → Int32} {k : Nat} {v : Int} (h : SM49 f g) (hk : 26 ≤ k ∧ k < 49) : SM49 f (uR g k v) := fun j hj => by rw [uR_n (by omega)]; exact h j hj
theorem smq_r (f : Nat → Int32) : SM49 f f := fun _ _ => rfl
theorem smq_vs {f : Nat → Int32} (b : Int) : SM49 f (vsS f b) := smq_u (smq_u (smq_r f) (by decide)) (by decide)
theorem smq_dy (f : Nat → Int32) : SM49 f (dyS f) := by
  have a : SM49 f (dgS f) := smq_u (smq_r f) (by decide)
  have b : SM49 f (deS f) := smq_t a (smq_u (smq_r _) (by decide))
  unfold dyS
  repeat' split
  · exact a
  · exact smq_t b (smq_vs _)
  · exact b
theorem smq_do {f : Nat → Int32} {v : Int} (h : wnF f v = 0) (hk : (f 26).toInt ≤ 8) : SM49 f (doS f v) := by
  have s := wnF_s f v
  by_cases q1 : v = -1
  · rw [do_m f q1]; exact smq_dy f
  by_cases q2 : v < 100
  · rw [do_v f (by omega)]; exact smq_vs v
  by_cases q3 : v < 200
  · rw [do_g f (by omega)]; exact smq_u (smq_r f) (by decide)
  by_cases q4 : v < 1000
  · rw [do_h f (by omega)]; exact smq_u (smq_r f) (by decide)
  · rw [do_p f (by omega)]
    have w := wpF_s f ((v - 1000) / 100) (v % 100)
    exact smq_u (smq_r f) (by omega)
theorem un_49 {g f : Nat → Int32} {n k : Nat} {v : Int} (h : b01 (g = unF (uR f 49 v) n k) = 1) (hk : k ≤ 23) (hv : -2147483648 ≤ v ∧ v ≤ 2147483647) : (g 49).toInt = v := by
  rw [b01_e h]
  unfold unF
  rw [if_neg (by omega), uR_s]; exact sI_t hv
theorem nt_lo {g w : Nat → Int32} {j : Nat} (h : j < 49) : ntF g w j = g j := by
  unfold ntF
  rw [uR_n (by omega)]
  unfold wrS
  rw [if_neg (by omega)]
  unfold n1F
  split
  · rw [uR_n (by omega)]; unfold shS; rw [if_neg (by omega)]
  · rfl
def puI (w : Int) (f g : Nat → Int32) : Nat → Int32 := if w = 0 then ntF g (kpF f) else f
def aI (w a : Int) : Int := if w = 0 then a else -10 - w
theorem pu_y {w a : Int} {f g N : Nat → Int32} (h : w = 0) (e : b01 (N = ntF g (kpF f)) = 1) : b01 (N = puI w f g) = 1 ∧ aI w a = a := by
  unfold puI aI; rw [if_pos h, if_pos h]; exact ⟨e, rfl⟩
theorem pu_n {w : Int} {f N : Nat → Int32} (h : ¬ w = 0) (e : N = f) (g : Nat → Int32) (a : Int) : b01 (N = puI w f g) = 1 ∧ aI w a = -10 - w := by
  unfold puI aI; rw [if_neg h, if_neg h]; exact ⟨b01_i e, rfl⟩
theorem aI_s (w a : Int) : (w = 0 ∧ aI w a = a) ∨ (¬ w = 0 ∧ aI w a = -10 - w) := by
  unfold aI; split
  · exact Or.inl ⟨by assumption, rfl⟩
  · exact Or.inr ⟨by assumption, rfl⟩
/-- notes() behind keeps(): the row as it was is what is noted -/
theorem nt_q {M Mk N : mm_M} {f : Nat → Int32} (e : b01 (N.1 99 = ntF (M.1 99) (M.1 105)) = 1) (hk : b01 (KPN Mk f 23) = 1) (h5 : M.1 105 = Mk.1 105) {g : Nat → Int32} (hg : M.1 99 = g) : b01 (N.1 99 = ntF g (kpF f)) = 1 := by
  rw [← hg]
  exact nt_k e (fun k h => by rw [h5]; exact b01_e hk k h)
theorem as_w {M M1 M2 N : mm_M} {f : Nat → Int32} {n g : Int} (hf : M.1 99 = f) (e3 : M1 = wI M 99 26 (sI ((f 26).toInt + 1))) (e2 : M2 = wI M1 99 (33 + (f 26).toInt).toNat (sI n)) (e1 : N = wI M2 99 (41 + (f 26).toInt).toNat (sI g)) : N.1 99 = asS f n g := by
  rw [uR_w e1, uR_w e2, uR_w e3, hf]; rfl
/-! days -/
noncomputable def daA (f : Nat → Int32) (n : Int) : Int := if 1 ≤ n ∧ n ≤ 99 then (dsS f n.toNat).2 else -3
noncomputable def daS (f : Nat → Int32) (n : Int) : Nat → Int32 := if 1 ≤ n ∧ n ≤ 99 then ntF (dsS f n.toNat).1 (kpF f) else f
theorem da_y {f N : Nat → Int32} {n a : Int} (h : 1 ≤ n ∧ n ≤ 99) (ha : a = (dsS f n.toNat).2) (e : b01 (N = ntF (dsS f n.toNat).1 (kpF f)) = 1) : a = daA f n ∧ b01 (N = daS f n) = 1 := by
  unfold daA daS; rw [if_pos h, if_pos h]; exact ⟨ha, e⟩
theorem da_n {f N : Nat → Int32} {n : Int} (h : ¬ (1 ≤ n ∧ n ≤ 99)) (e : N = f) : daA f n = -3 ∧ b01 (N = daS f n) = 1 := by
  unfold daA daS; rw [if_neg h, if_neg h]; exact ⟨rfl, b01_i e⟩
theorem ds_0 (f : Nat → Int32) : b01 (f = (dsS f (0 : Int).toNat).1) = 1 ∧ (dsS f (0 : Int).toNat).2 = 0 := ⟨b01_i rfl, rfl⟩
theorem ds_w {f g N : Nat → Int32} {x x' a b : Int} (h : b01 (g = (dsS f x.toNat).1) = 1) (e : b01 (N = dyS g) = 1) (ha : a = (dsS f x.toNat).2) (hb : b = dyA g) (q : 0 ≤ x ∧ x' = x + 1) : b01 (N = (dsS f x'.toNat).1) = 1 ∧ a + b = (dsS f x'.toNat).2 := by
  have h := b01_e h
  have e := b01_e e
  have s := ds_s f q.1 q.2
  rw [s.1, s.2, ← h]
  exact ⟨b01_i e, by rw [ha, hb]⟩
/-! undo -/
def uoA (f : Nat → Int32) (n : Int) : Int := if 1 ≤ n ∧ n ≤ 10 ∧ n ≤ (f 49).toInt then (f 49).toInt - n else -3
def uoS (f : Nat → Int32) (n : Int) : Nat → Int32 := if 1 ≤ n ∧ n ≤ 10 ∧ n ≤ (f 49).toInt then unS f n else f
theorem uo_y {f N : Nat → Int32} {n a : Int} (h : 1 ≤ n ∧ n ≤ 10 ∧ n ≤ (f 49).toInt) (ha : a = (f 49).toInt - n) (e : b01 (N = unF (uR f 49 ((f 49).toInt - n)) ((f 49).toInt - n).toNat (23 : Int).toNat) = 1) : a = uoA f n ∧ b01 (N = uoS f n) = 1 := by
  unfold uoA uoS; rw [if_pos h, if_pos h]; exact ⟨ha, e⟩
theorem uo_n {f N : Nat → Int32} {n : Int} (h : ¬ (1 ≤ n ∧ n ≤ 10 ∧ n ≤ (f 49).toInt)) (e : N = f) : uoA f n = -3 ∧ b01 (N = uoS f n) = 1 := by
  unfold uoA uoS; rw [if_neg h, if_neg h]; exact ⟨rfl, b01_i e⟩
/-! trays: their deeds -/
def tyM (M : mm_M) (t : Int) (i : Nat) : Int := (M.2.1 117 (40 * t + (i : Int)).toNat).toInt
theorem ty_e (M : mm_M) (t : Int) {k : Int} (h : 0 ≤ k) : tyM M t k.toNat = (M.2.1 117 (40 * t + k).toNat).toInt := by unfold tyM; rw [show ((k.toNat : Nat) : Int) = k by omega]
/-- which deeds of tray t can be, and the row behind them -/
noncomputable def tqF (M : mm_M) (t : Int) : (Nat → Int32) × Int × Int := tlF (M.1 99) (tyM M t) (M.1 116 t.toNat).toInt.toNat
theorem tl_0 (f : Nat → Int32) (T : Nat → Int) : b01 (f = (tlF f T (0 : Int).toNat).1) = 1 ∧ (tlF f T (0 : Int).toNat).2.1 = 0 ∧ (tlF f T (0 : Int).toNat).2.2 = 0 := ⟨b01_i rfl, rfl, rfl⟩
theorem tl_go {f g h' N : Nat → Int32} {T : Nat → Int} {x x' v w : Int} (h : b01 (g = (tlF f T x.toNat).1) = 1) (h0 : (tlF f T x.toNat).2.1 = 0) (hv : v = T x.toNat) (hw : w = wnF g v) (hz : w = 0) (hg : h' = g) (e : b01 (N = doS h' v) = 1) (q : 0 ≤ x ∧ x' = x + 1) : b01 (N = (tlF f T x'.toNat).1) = 1 ∧ (tlF f T x'.toNat).2.1 = 0 ∧ (tlF f T x'.toNat).2.2 = x' := by
  have h := b01_e h
  have e := b01_e e
  subst hg
  subst hv
  rw [h] at hw e
  have s := tl_y f q.1 q.2 h0 (by rw [← hw]; exact hz)
  exact ⟨b01_i (e.trans s.1.symm), s.2.1, s.2.2⟩
theorem tl_st {f g N : Nat → Int32} {T : Nat → Int} {x n v w : Int} (h : b01 (g = (tlF f T x.toNat).1) = 1) (h0 : (tlF f T x.toNat).2.1 = 0) (hv : v = T x.toNat) (hw : w = wnF g v) (hz : ¬ w = 0) (hg : N = g) (q : 0 ≤ x ∧ x < n) : b01 (N = (tlF f T n.toNat).1) = 1 ∧ (tlF f T n.toNat).2.1 = w ∧ (tlF f T n.toNat).2.2 = x := by
  have h := b01_e h
  subst hg
  subst hv
  rw [h] at hw
  have s := tl_n f (k' := x + 1) q.1 rfl h0 (by rw [← hw]; exact hz)
  have z := tl_x f n.toNat (x + 1).toNat (T := T) (by omega) (by rw [s.2.1, ← hw]; exact hz)
  rw [z]
  exact ⟨b01_i (h.trans s.1.symm), by rw [s.2.1, hw], s.2.2⟩
/-- what tells() leaves -/
def TLM (M N : mm_M) (t r : Int) : Prop := N.1 99 = (tqF M t).1 ∧ (N.1 98 18).toInt = (tqF M t).2.1 ∧ r = (tqF M t).2.2
theorem tlm_e {M N : mm_M} {t r : Int} (h : b01 (TLM M N t r) = 1) : N.1 99 = (tqF M t).1 ∧ (N.1 98 18).toInt = (tqF M t).2.1 ∧ r = (tqF M t).2.2 := b01_e h
/-! judge: nothing stays -/
def SMG (f g : Nat → Int32) : Prop := SM49 f g ∧ g 26 = f 26
theorem smk_do {f : Nat → Int32} {v : Int} (h : wnF f v = 0) (hk : (f 26).toInt ≤ 8) : SMG f (doS f v) := by
  refine ⟨smq_do h hk, ?_⟩
  have u : ∀ (g : Nat → Int32) (k : Nat) (x : Int), 26 ≠ k → uR g k x 26 = g 26 := fun g k x hk => uR_n hk
  have vs : ∀ (g : Nat → Int32) (b : Int), vsS g b 26 = g 26 := fun g b => by unfold vsS; rw [u _ _ _ (by decide), u _ _ _ (by decide)]
  have dg : dgS f 26 = f 26 := u _ _ _ (by decide)
  have de : deS f 26 = f 26 := by unfold deS drS; rw [u _ _ _ (by decide)]; exact dg
  unfold doS
  repeat' split
  · unfold dyS
    repeat' split
    · exact dg
    · rw [vs]; exact de
    · exact de
  · exact vs f v
  · exact u _ _ _ (by decide)
  · exact u _ _ _ (by decide)
  · have s := wnF_s f v
    have w := wpF_s f ((v - 1000) / 100) (v % 100)
    exact u _ _ _ (by omega)
theorem smk_tl {f : Nat → Int32} {T : Nat → Int} (hk : (f 26).toInt ≤ 8) : ∀ n : Nat, SMG f (tlF f T n).1
  | 0 => ⟨smq_r f, rfl⟩
  | n + 1 => by
    have ih := smk_tl (T := T) hk n
    rw [tlF]
    repeat' split
    · rename_i h0 h1
      have s := smk_do h1 (by rw [ih.2]; exact hk)
      exact ⟨smq_t ih.1 s.1, s.2.trans ih.2⟩
    · exact ih
    · exact ih
theorem ju_r {M M1 M2 N : mm_M} {f : Nat → Int32} {t : Int} (e : b01 (N.1 99 = iaF (M2.1 99) (M2.1 105) (23 : Int).toNat) = 1) (hk : b01 (KPN M1 f 23) = 1) (h5 : M2.1 105 = M1.1 105) (ht : M2.1 99 = (tlF f (tyM M t) (M.1 116 t.toNat).toInt.toNat).1) (h26 : (f 26).toInt ≤ 8) : b01 (N.1 99 = f) = 1 :=
  ia_k (M := M2) e (kn_f hk h5) (by rw [ht]; exact (smk_tl h26 _).1)
noncomputable def juA (p : (Nat → Int32) × Int × Int) (w : Int) : Int := if w = 0 then (if p.2.1 = 0 then -1 else p.2.2) else if w = 1 then p.2.1 else if w = 2 then (p.1 27).toInt else (p.1 29).toInt
theorem juA_s (p : (Nat → Int32) × Int × Int) (w : Int) : (w = 0 ∧ p.2.1 = 0 ∧ juA p w = -1) ∨ (w = 0 ∧ ¬ p.2.1 = 0 ∧ juA p w = p.2.2) ∨ (w = 1 ∧ juA p w = p.2.1) ∨ (w = 2 ∧ juA p w = (p.1 27).toInt) ∨ ((¬ w = 0 ∧ ¬ w = 1 ∧ ¬ w = 2) ∧ juA p w = (p.1 29).toInt) := by
  unfold juA; repeat' split
  all_goals omega
/-- a tray that can't be read -/
def ntA (M : mm_M) (t : Int) : Int := if t < 0 ∨ 3 < t then -2 else if (M.1 115 t.toNat).toInt = -1 then -6 else 0
theorem ntA_s (M : mm_M) (t : Int) : ((t < 0 ∨ 3 < t) ∧ ntA M t = -2) ∨ ((0 ≤ t ∧ t ≤ 3) ∧ (M.1 115 t.toNat).toInt = -1 ∧ ntA M t = -6) ∨ ((0 ≤ t ∧ t ≤ 3) ∧ ¬ (M.1 115 t.toNat).toInt = -1 ∧ ntA M t = 0) := by
  unfold ntA; repeat' split
  all_goals omega
noncomputable def jgA (M : mm_M) (t w : Int) : Int := if w < 0 ∨ 3 < w then -2 else if ntA M t = 0 then juA (tqF M t) w else ntA M t
theorem jgA_s (M : mm_M) (t w : Int) : ((w < 0 ∨ 3 < w) ∧ jgA M t w = -2) ∨ ((0 ≤ w ∧ w ≤ 3) ∧ ntA M t = 0 ∧ jgA M t w = juA (tqF M t) w) ∨ ((0 ≤ w ∧ w ≤ 3) ∧ ¬ ntA M t = 0 ∧ jgA M t w = ntA M t) := by
  unfold jgA; repeat' split
  all_goals omega
noncomputable def peA (M : mm_M) (t : Int) : Int := if ntA M t = 0 then (tqF M t).2.2 else ntA M t
noncomputable def peS (M : mm_M) (t : Int) : Nat → Int32 := if ntA M t = 0 then (if 0 < (tqF M t).2.2 then ntF (tqF M t).1 (kpF (M.1 99)) else (tqF M t).1) else M.1 99
theorem pe_1 {M : mm_M} {N : Nat → Int32} {t r : Int} (h : ntA M t = 0) (hr : r = (tqF M t).2.2) (h0 : 0 < r) (e : b01 (N = ntF (tqF M t).1 (kpF (M.1 99))) = 1) : r = peA M t ∧ b01 (N = peS M t) = 1 := by
  unfold peA peS; rw [if_pos h, if_pos h, if_pos (by omega)]; exact ⟨hr, e⟩
theorem pe_2 {M : mm_M} {N : Nat → Int32} {t r : Int} (h : ntA M t = 0) (hr : r = (tqF M t).2.2) (h0 : ¬ 0 < r) (e : N = (tqF M t).1) : r = peA M t ∧ b01 (N = peS M t) = 1 := by
  unfold peA peS; rw [if_pos h, if_pos h, if_neg (by omega)]; exact ⟨hr, b01_i e⟩
theorem pe_3 {M : mm_M} {N : Nat → Int32} {t r : Int} (h : ¬ ntA M t = 0) (hr : r = ntA M t) (e : N = M.1 99) : r = peA M t ∧ b01 (N = peS M t) = 1 := by
  unfold peA peS; rw [if_neg h, if_neg h]; exact ⟨hr, b01_i e⟩
/-! a season -/
noncomputable def dnV (f : Nat → Int32) : Int := if drF f 5 < 2 then -1 else if drF f 5 = 2 then drF (drS f) 6 else 100 * (drF f 5 - 2) + drF (drS f) 8
noncomputable def dnS (f : Nat → Int32) : Nat → Int32 := if drF f 5 < 2 then drS f else drS (drS f)
theorem dn_1 {f g : Nat → Int32} {a : Int} (e : b01 (g = drS f) = 1) (ha : a = drF f 5) (h : a < 2) : dnV f = -1 ∧ b01 (g = dnS f) = 1 := by
  unfold dnV dnS; rw [if_pos (by omega), if_pos (by omega)]; exact ⟨rfl, e⟩
theorem dn_2 {f g h : Nat → Int32} {a b : Int} (e : b01 (g = drS f) = 1) (e2 : b01 (h = drS g) = 1) (ha : a = drF f 5) (hb : b = drF g 6) (q : a = 2) : b = dnV f ∧ b01 (h = dnS f) = 1 := by
  have e := b01_e e
  have e2 := b01_e e2
  subst e
  have q1 : ¬ drF f 5 < 2 := by omega
  have q2 : drF f 5 = 2 := by omega
  unfold dnV dnS; rw [if_neg q1, if_neg q1, if_pos q2]; exact ⟨hb, b01_i e2⟩
theorem dn_3 {f g h : Nat → Int32} {a b : Int} (e : b01 (g = drS f) = 1) (e2 : b01 (h = drS g) = 1) (ha : a = drF f 5) (hb : b = drF g 8) (q : 2 < a) : 100 * (a - 2) + b = dnV f ∧ b01 (h = dnS f) = 1 := by
  have e := b01_e e
  have e2 := b01_e e2
  subst e
  unfold dnV dnS; rw [if_neg (by omega), if_neg (by omega), if_neg (by omega)]; exact ⟨by rw [ha, hb], b01_i e2⟩
/-- n draws of a season: the row, how many could be -/
noncomputable def seF (f : Nat → Int32) : Nat → (Nat → Int32) × Int
  | 0 => (f, 0)
  | n + 1 => if wnF (dnS (seF f n).1) (dnV (seF f n).1) = 0 then (doS (dnS (seF f n).1) (dnV (seF f n).1), (seF f n).2 + 1) else (dnS (seF f n).1, (seF f n).2)
theorem se_0 (f : Nat → Int32) : b01 (f = (seF f (0 : Int).toNat).1) = 1 ∧ (seF f (0 : Int).toNat).2 = 0 := ⟨b01_i rfl, rfl⟩
theorem seq_y {f g h h' N : Nat → Int32} {x x' v w c : Int} (hg : b01 (g = (seF f x.toNat).1) = 1) (hh : b01 (h = dnS g) = 1) (hv : v = dnV g) (hw : w = wnF h v) (hz : w = 0) (h2 : h' = h) (e : b01 (N = doS h' v) = 1) (hc : c = (seF f x.toNat).2) (q : 0 ≤ x ∧ x' = x + 1) : b01 (N = (seF f x'.toNat).1) = 1 ∧ c + 1 = (seF f x'.toNat).2 := by
  have hg := b01_e hg
  have hh := b01_e hh
  have e := b01_e e
  subst hg
  subst hh
  subst h2
  subst hv
  rw [q.2, show (x + 1).toNat = x.toNat + 1 by omega, seF, if_pos (by rw [← hw]; exact hz)]
  exact ⟨b01_i e, by show c + 1 = _; rw [hc]⟩
theorem seq_n {f g h N : Nat → Int32} {x x' v w c : Int} (hg : b01 (g = (seF f x.toNat).1) = 1) (hh : b01 (h = dnS g) = 1) (hv : v = dnV g) (hw : w = wnF h v) (hz : ¬ w = 0) (e : N = h) (hc : c = (seF f x.toNat).2) (q : 0 ≤ x ∧ x' = x + 1) : b01 (N = (seF f x'.toNat).1) = 1 ∧ c = (seF f x'.toNat).2 := by
  have hg := b01_e hg
  have hh := b01_e hh
  subst hg
  subst hh
  subst e
  subst hv
  rw [q.2, show (x + 1).toNat = x.toNat + 1 by omega, seF, if_neg (by rw [← hw]; exact hz)]
  exact ⟨b01_i rfl, hc⟩
noncomputable def sqA (f : Nat → Int32) (s n : Int) : Int := if 1 ≤ n ∧ n ≤ 40 then (seF (uR f 32 s) n.toNat).2 else -3
noncomputable def sqS (f : Nat → Int32) (s n : Int) : Nat → Int32 := if 1 ≤ n ∧ n ≤ 40 then (if 0 < (seF (uR f 32 s) n.toNat).2 then ntF (seF (uR f 32 s) n.toNat).1 (kpF f) else iaF (seF (uR f 32 s) n.toNat).1 (kpF f) 23) else f
theorem sq_y {f N : Nat → Int32} {s n c : Int} (h : 1 ≤ n ∧ n ≤ 40) (hc : c = (seF (uR f 32 s) n.toNat).2) (h0 : 0 < c) (e : b01 (N = ntF (seF (uR f 32 s) n.toNat).1 (kpF f)) = 1) : c = sqA f s n ∧ b01 (N = sqS f s n) = 1 := by
  unfold sqA sqS; rw [if_pos h, if_pos h, if_pos (by omega)]; exact ⟨hc, e⟩
theorem sq_z {M M1 N : mm_M} {f : Nat → Int32} {s n c : Int} (h : 1 ≤ n ∧ n ≤ 40) (hc : c = (seF (uR f 32 s) n.toNat).2) (h0 : ¬ 0 < c) (e : b01 (N.1 99 = iaF (M.1 99) (M.1 105) (23 : Int).toNat) = 1) (hk : b01 (KPN M1 f 23) = 1) (h5 : M.1 105 = M1.1 105) (ht : b01 (M.1 99 = (seF (uR f 32 s) n.toNat).1) = 1) : c = sqA f s n ∧ b01 (N.1 99 = sqS f s n) = 1 := by
  unfold sqA sqS; rw [if_pos h, if_pos h, if_neg (by omega)]
  refine ⟨hc, b01_i ?_⟩
  rw [b01_e e, b01_e ht]
  funext j
  unfold iaF
  by_cases c : 26 ≤ j ∧ j < 26 + 23
  · rw [if_pos (by omega), if_pos c, h5, b01_e hk (j - 26) (by omega)]; rfl
  · rw [if_neg (by omega), if_neg c]
theorem sq_n {f N : Nat → Int32} {s n : Int} (h : ¬ (1 ≤ n ∧ n ≤ 40)) (e : N = f) : sqA f s n = -3 ∧ b01 (N = sqS f s n) = 1 := by
  unfold sqA sqS; rw [if_neg h, if_neg h]; exact ⟨rfl, b01_i e⟩
theorem FR.cellJ {S : List Nat} {M N : mm_M} (h : FR S M N) {i : Nat} (hi : i ∉ S) : N.2.1 i = M.2.1 i := funext fun k => h.2.2 i k hi
theorem wI_J {M M' : mm_M} {i k : Nat} {v : Int32} (e : M' = wI M i k v) (j : Nat) : M'.2.1 j = M.2.1 j := by rw [e]
theorem tq_c {M N : mm_M} (h1 : N.1 99 = M.1 99) (h2 : N.2.1 117 = M.2.1 117) (h3 : N.1 116 = M.1 116) (t : Int) : tqF N t = tqF M t := by
  unfold tqF
  rw [h1, h3, show tyM N t = tyM M t from by funext i; unfold tyM; rw [h2]]
theorem tlm_c {M B N : mm_M} {t r : Int} (h : b01 (TLM B N t r) = 1) (h1 : B.1 99 = M.1 99) (h2 : B.2.1 117 = M.2.1 117) (h3 : B.1 116 = M.1 116) : N.1 99 = (tqF M t).1 ∧ (N.1 98 18).toInt = (tqF M t).2.1 ∧ r = (tqF M t).2.2 := by
  have := b01_e h
  unfold TLM at this
  rw [tq_c h1 h2 h3] at this
  exact this
/-! images -/
def imS (f : Nat → Int32) (i : Int) : Nat → Int32 := fun j => if (1181 * (i + 1)).toNat ≤ j ∧ j < (1181 * (i + 1)).toNat + 1181 then f (j - (1181 * (i + 1)).toNat) else f j
def reS (f : Nat → Int32) (i : Int) : Nat → Int32 := fun j => if j < 1181 then (if j = 49 then 0 else f ((1181 * (i + 1)).toNat + j)) else f j
def imR (f : Nat → Int32) (i : Int) : Nat → Int32 := fun j => f ((1181 * (i + 1)).toNat + j)
/-! trays of the reference, their numbers -/
def uJ (f : Nat → Int64) (k : Nat) (v : Int) : Nat → Int64 := fun j => if j = k then sJ v else f j
theorem uJ_w {M N : mm_M} {c k : Nat} {v : Int} (e : N = wJ M c k (sJ v)) : N.2.1 c = uJ (M.2.1 c) k v := by
  rw [e]
  funext j
  unfold uJ
  by_cases h : j = k
  · rw [if_pos h, h]; exact u2_s _ _ _ _
  · rw [if_neg h]; exact u2_b _ _ h
def zeJ (f : Nat → Int64) (a n : Nat) : Nat → Int64 := fun j => if a ≤ j ∧ j < a + n then sJ 0 else f j
theorem ze_0 (f : Nat → Int64) (a : Nat) : b01 (f = zeJ f a (0 : Int).toNat) = 1 := b01_i (by funext j; unfold zeJ; rw [if_neg (by omega)])
theorem ze_s {M N : mm_M} {f : Nat → Int64} {a p : Nat} {x x' : Int} (h : b01 (M.2.1 117 = zeJ f a x.toNat) = 1) (e : N = wJ M 117 p (sJ 0)) (q : 0 ≤ x ∧ x' = x + 1 ∧ p = a + x.toNat) : b01 (N.2.1 117 = zeJ f a x'.toNat) = 1 := b01_i (by
  rw [uJ_w e, b01_e h]
  funext j
  unfold uJ zeJ
  by_cases c : j = p
  · rw [if_pos c, if_pos (by omega)]
  · rw [if_neg c]
    by_cases d : a ≤ j ∧ j < a + x.toNat
    · rw [if_pos d, if_pos (by omega)]
    · rw [if_neg d, if_neg (by omega)])
theorem bo_m1s (f : Nat → Int32) (b s : Int) : ∀ n : Nat, -1 ≤ (boS f b s n).1
  | 0 => Int.le_refl _
  | n + 1 => by
    have ih := bo_m1s f b s n
    rw [boS]
    unfold boT
    repeat' split
    all_goals first | exact ih | (show (-1 : Int) ≤ (n : Int); omega)
theorem bo_m1g (f : Nat → Int32) (b s : Int) : -1 ≤ boF f b s := bo_m1s f b s _
/-! THE ENDING: how many visits at the fewest, buyer a away -/
def stE (g : Int → Int) (f : Nat → Int32) (a s b v : Int) : Int := if b = a ∨ boF f b s = -1 ∨ ¬ iiF s (boF f b s) = 0 then v else if g (orI s (pw2 (boF f b s))) + 1 < v then g (orI s (pw2 (boF f b s))) + 1 else v
def edE (g : Int → Int) (f : Nat → Int32) (a s : Int) : Nat → Int
  | 0 => if shF f s = 1 then 0 else 268435456
  | n + 1 => stE g f a s (n : Int) (edE g f a s n)
def edN (f : Nat → Int32) (a : Int) : Nat → Int → Int
  | 0, _ => 268435456
  | n + 1, s => edE (edN f a n) f a s (f 1).toInt.toNat
def edF (f : Nat → Int32) (a s : Int) : Int := edN f a (256 - s).toNat s
theorem edE_c {g h : Int → Int} {f : Nat → Int32} {a s : Int} (H : ∀ k : Int, 0 ≤ k → k ≤ 7 → iiF s k = 0 → g (orI s (pw2 k)) = h (orI s (pw2 k))) (hk : (f 26).toInt ≤ 8) (h0 : 0 ≤ (f 26).toInt) : ∀ n : Nat, edE g f a s n = edE h f a s n
  | 0 => rfl
  | n + 1 => by
    rw [edE, edE, edE_c H hk h0 n]
    unfold stE
    by_cases c : (n : Int) = a ∨ boF f (n : Int) s = -1 ∨ ¬ iiF s (boF f (n : Int) s) = 0
    · rw [if_pos c, if_pos c]
    · rw [if_neg c, if_neg c]
      have l := boF_lt f (n : Int) s h0
      have m : -1 ≤ boF f (n : Int) s := bo_m1g f (n : Int) s
      rw [H (boF f (n : Int) s) (by omega) (by omega) (by omega)]
theorem edN_f {f : Nat → Int32} {a : Int} (hk : (f 26).toInt ≤ 8) (h0 : 0 ≤ (f 26).toInt) : ∀ (m n : Nat) (s : Int), 0 ≤ s → s ≤ 255 → 256 - s ≤ (m : Int) → 256 - s ≤ (n : Int) → edN f a m s = edN f a n s
  | 0, n, s, h1, h2, h3, h4 => by omega
  | m + 1, 0, s, h1, h2, h3, h4 => by omega
  | m + 1, n + 1, s, h1, h2, h3, h4 => by
    rw [edN, edN]
    refine edE_c (fun k q0 q1 q2 => ?_) hk h0 _
    have l := ii_orI (s := s) (k := k) ⟨h1, h2, q0, q1⟩ q2
    have u := or_lt (s := s) (k := k) (K := 8) ⟨h1, by show s < 256; omega, q0, by omega, by omega⟩
    have u2 : orI s (pw2 k) < 256 := u.2
    exact edN_f hk h0 m n _ u.1 (by omega) (by omega) (by omega)
theorem edF_e {f : Nat → Int32} {a s : Int} (hk : 0 ≤ (f 26).toInt ∧ (f 26).toInt ≤ 8) (hs : 0 ≤ s ∧ s ≤ 255) : edF f a s = edE (edF f a) f a s (f 1).toInt.toNat := by
  unfold edF
  rw [show (256 - s).toNat = (255 - s).toNat + 1 by omega, edN]
  refine edE_c (fun k q0 q1 q2 => ?_) hk.2 hk.1 _
  have l := ii_orI (s := s) (k := k) ⟨hs.1, hs.2, q0, q1⟩ q2
  have u := or_lt (s := s) (k := k) (K := 8) ⟨hs.1, by show s < 256; omega, q0, by omega, by omega⟩
  have u2 : orI s (pw2 k) < 256 := u.2
  exact edN_f hk.2 hk.1 _ _ _ u.1 (by omega) (by omega) (by omega)
theorem edN_b {f : Nat → Int32} {a : Int} (hk : (f 26).toInt ≤ 8) (h0 : 0 ≤ (f 26).toInt) : ∀ (m : Nat) (s : Int), 0 ≤ s → s ≤ 255 → edN f a m s = 268435456 ∨ (0 ≤ edN f a m s ∧ edN f a m s ≤ 255 - s)
  | 0, s, _, _ => Or.inl rfl
  | m + 1, s, h1, h2 => by
    rw [edN]
    generalize (f 1).toInt.toNat = n
    induction n with
    | zero =>
      rw [edE]
      split
      · exact Or.inr ⟨by omega, by omega⟩
      · exact Or.inl rfl
    | succ n ih =>
      rw [edE]
      unfold stE
      split
      · exact ih
      · split
        · rename_i c d
          have l' := boF_lt f (n : Int) s h0
          have m' : -1 ≤ boF f (n : Int) s := bo_m1g f (n : Int) s
          have l := ii_orI (s := s) (k := boF f (n : Int) s) ⟨h1, h2, by omega, by omega⟩ (by omega)
          have u := or_lt (s := s) (k := boF f (n : Int) s) (K := 8) ⟨h1, by show s < 256; omega, by omega, by omega, by omega⟩
          have u2 : orI s (pw2 (boF f (n : Int) s)) < 256 := u.2
          have b := edN_b (a := a) hk h0 m (orI s (pw2 (boF f (n : Int) s))) u.1 (by omega)
          omega
        · exact ih
theorem edF_b {f : Nat → Int32} {a s : Int} (hk : 0 ≤ (f 26).toInt ∧ (f 26).toInt ≤ 8) (hs : 0 ≤ s ∧ s ≤ 255) : edF f a s = 268435456 ∨ (0 ≤ edF f a s ∧ edF f a s ≤ 255 - s) := edN_b hk.2 hk.1 _ s hs.1 hs.2
theorem edE_0 (g : Int → Int) (f : Nat → Int32) (a s : Int) : (shF f s = 1 ∧ edE g f a s (0 : Int).toNat = 0) ∨ (¬ shF f s = 1 ∧ edE g f a s (0 : Int).toNat = 268435456) := by
  show (shF f s = 1 ∧ edE g f a s 0 = 0) ∨ (¬ shF f s = 1 ∧ edE g f a s 0 = 268435456)
  rw [edE]
  split
  · exact Or.inl ⟨by assumption, rfl⟩
  · exact Or.inr ⟨by assumption, rfl⟩
theorem edE_s {f : Nat → Int32} {a s b b' v : Int} (g : Int → Int) (hb : 0 ≤ b ∧ b' = b + 1) (hv : v = edE g f a s b.toNat) : ((b = a ∨ boF f b s = -1 ∨ ¬ iiF s (boF f b s) = 0) ∧ edE g f a s b'.toNat = v) ∨ ((¬ b = a ∧ ¬ boF f b s = -1 ∧ iiF s (boF f b s) = 0) ∧ ((g (orI s (pw2 (boF f b s))) + 1 < v ∧ edE g f a s b'.toNat = g (orI s (pw2 (boF f b s))) + 1) ∨ (¬ g (orI s (pw2 (boF f b s))) + 1 < v ∧ edE g f a s b'.toNat = v))) := by
  obtain ⟨h0, rfl⟩ := hb
  rw [show (b + 1).toNat = b.toNat + 1 by omega, edE, ← hv, show ((b.toNat : Nat) : Int) = b by omega]
  unfold stE
  split
  · exact Or.inl ⟨by assumption, rfl⟩
  · rename_i c
    right
    refine ⟨by omega, ?_⟩
    split
    · exact Or.inl ⟨by assumption, rfl⟩
    · exact Or.inr ⟨by assumption, rfl⟩
/-- a valid visit is never more than one step nearer -/
theorem edE_le {g : Int → Int} {f : Nat → Int32} {a s : Int} {b : Nat} (h : ¬ ((b : Int) = a ∨ boF f (b : Int) s = -1 ∨ ¬ iiF s (boF f (b : Int) s) = 0)) : ∀ n : Nat, b < n → edE g f a s n ≤ g (orI s (pw2 (boF f (b : Int) s))) + 1
  | 0, q => by omega
  | n + 1, q => by
    rw [edE]
    by_cases c : b = n
    · subst c
      unfold stE
      rw [if_neg h]
      split <;> omega
    · have ih := edE_le (g := g) h n (by omega)
      unfold stE
      split
      · exact ih
      · split
        · omega
        · exact ih
theorem edE_ex {g : Int → Int} {f : Nat → Int32} {a s : Int} : ∀ n : Nat, edE g f a s n = (if shF f s = 1 then 0 else 268435456) ∨ ∃ b : Nat, b < n ∧ ¬ ((b : Int) = a ∨ boF f (b : Int) s = -1 ∨ ¬ iiF s (boF f (b : Int) s) = 0) ∧ edE g f a s n = g (orI s (pw2 (boF f (b : Int) s))) + 1
  | 0 => Or.inl rfl
  | n + 1 => by
    have ih := edE_ex (g := g) (f := f) (a := a) (s := s) n
    rw [edE]
    have keep : edE g f a s n = (if shF f s = 1 then 0 else 268435456) ∨ ∃ b : Nat, b < n + 1 ∧ ¬ ((b : Int) = a ∨ boF f (b : Int) s = -1 ∨ ¬ iiF s (boF f (b : Int) s) = 0) ∧ edE g f a s n = g (orI s (pw2 (boF f (b : Int) s))) + 1 := by
      rcases ih with q | ⟨b, q1, q2, q3⟩
      · exact Or.inl q
      · exact Or.inr ⟨b, by omega, q2, q3⟩
    unfold stE
    split
    · exact keep
    · rename_i c
      split
      · exact Or.inr ⟨n, by omega, c, rfl⟩
      · exact keep
/-- the ending's length; NONE: there is none -/
def enF (f : Nat → Int32) (a : Int) : Int := if 268435456 ≤ edF f a (f 27).toInt then -1 else edF f a (f 27).toInt
theorem enF_s (f : Nat → Int32) (a : Int) : (268435456 ≤ edF f a (f 27).toInt ∧ enF f a = -1) ∨ (edF f a (f 27).toInt < 268435456 ∧ enF f a = edF f a (f 27).toInt) := by
  unfold enF
  split
  · exact Or.inl ⟨by assumption, rfl⟩
  · exact Or.inr ⟨by omega, rfl⟩
/-! the row of the ending -/
def nbC (f : Nat → Int32) (s v b : Int) : Prop := ¬ boF f b s = -1 ∧ iiF s (boF f b s) = 0 ∧ edF f (-1) (orI s (pw2 (boF f b s))) = v
noncomputable def nbS (f : Nat → Int32) (s v : Int) : Nat → Int → Int
  | 0, b => b
  | n + 1, b => if b01 (nbC f s v b) = 1 then b else nbS f s v n (b + 1)
theorem nbS_s {f : Nat → Int32} {s v b b' : Int} (hb : b < 6 ∧ b' = b + 1) : (nbC f s v b ∧ nbS f s v (6 - b).toNat b = b) ∨ (¬ nbC f s v b ∧ nbS f s v (6 - b).toNat b = nbS f s v (6 - b').toNat b') := by
  obtain ⟨h0, rfl⟩ := hb
  rw [show (6 - b).toNat = (6 - (b + 1)).toNat + 1 by omega, nbS]
  by_cases c : nbC f s v b
  · rw [if_pos (b01_i c)]; exact Or.inl ⟨c, rfl⟩
  · rw [if_neg (fun q => c (b01_e q))]; exact Or.inr ⟨c, rfl⟩
/-- who comes and what is sold by then, of an ending of m visits -/
noncomputable def roS (f : Nat → Int32) (m : Int) : Nat → Int
  | 0 => (f 27).toInt
  | i + 1 => orI (roS f m i) (pw2 (boF f (nbS f (roS f m i) (m - (i : Int) - 1) 6 0) (roS f m i)))
noncomputable def roB (f : Nat → Int32) (m : Int) (i : Nat) : Int := nbS f (roS f m i) (m - (i : Int) - 1) 6 0
theorem ro_s {f : Nat → Int32} {m i i' s b : Int} (hi : 0 ≤ i ∧ i' = i + 1) (hs : s = roS f m i.toNat) (hb : b = nbS f s (m - i - 1) 6 0) : b = roB f m i.toNat ∧ orI s (pw2 (boF f b s)) = roS f m i'.toNat := by
  obtain ⟨h0, rfl⟩ := hi
  subst hs
  subst hb
  rw [show (i + 1).toNat = i.toNat + 1 by omega, roS]
  unfold roB
  rw [show ((i.toNat : Nat) : Int) = i by omega]
  exact ⟨rfl, rfl⟩
/-! the reference's arrays -/
def LBX (M : mm_M) (f : Nat → Int32) (s b : Int) : Prop := ∀ s' b' : Int, 0 ≤ s' → 0 ≤ b' → b' < (f 1).toInt → (s' < s ∨ s' = s ∧ b' < b) → (M.1 106 (6 * s' + b').toNat).toInt = boF f b' s'
def LBF (M : mm_M) (f : Nat → Int32) : Prop := ∀ s' b' : Int, 0 ≤ s' → 0 ≤ b' → b' < (f 1).toInt → s' ≤ evF f → (M.1 106 (6 * s' + b').toNat).toInt = boF f b' s'
theorem lx_0 (M : mm_M) (f : Nat → Int32) : b01 (LBX M f 0 0) = 1 := b01_i (fun s' b' h0 h1 h2 h3 => absurd h3 (by omega))
theorem lx_s {M M' : mm_M} {f : Nat → Int32} {s b v : Int} (e : M' = wI M 106 (6 * s + b).toNat (sI v)) (h : b01 (LBX M f s b) = 1) (q : (-2147483648 ≤ v ∧ v ≤ 2147483647) ∧ v = boF f b s ∧ 0 ≤ s ∧ 0 ≤ b ∧ b < 6 ∧ (f 1).toInt ≤ 6) : b01 (LBX M' f s (b + 1)) = 1 := b01_i (fun s' b' h0 h1 h2 h3 => by
  by_cases c : s' = s ∧ b' = b
  · obtain ⟨rfl, rfl⟩ := c
    rw [wI_at e, sI_t q.1]; exact q.2.1
  · rw [wI_ne e (show (6 * s' + b').toNat ≠ (6 * s + b).toNat by omega)]
    exact b01_e h s' b' h0 h1 h2 (by omega))
theorem lx_n {M : mm_M} {f : Nat → Int32} {s b : Int} (h : b01 (LBX M f s b) = 1) (q : (f 1).toInt ≤ b) : b01 (LBX M f (s + 1) 0) = 1 := b01_i (fun s' b' h0 h1 h2 h3 => b01_e h s' b' h0 h1 h2 (by omega))
theorem lx_e {M : mm_M} {f : Nat → Int32} {s : Int} (h : b01 (LBX M f s 0) = 1) (q : evF f < s) : b01 (LBF M f) = 1 := b01_i (fun s' b' h0 h1 h2 h3 => b01_e h s' b' h0 h1 h2 (by omega))
theorem lx_c {M N : mm_M} {f : Nat → Int32} {s b : Int} (e : N.1 106 = M.1 106) (h : b01 (LBX M f s b) = 1) : b01 (LBX N f s b) = 1 := b01_i (by unfold LBX; rw [e]; exact b01_e h)
theorem lf_c {M N : mm_M} {f : Nat → Int32} (e : N.1 106 = M.1 106) (h : b01 (LBF M f) = 1) : b01 (LBF N f) = 1 := b01_i (by unfold LBF; rw [e]; exact b01_e h)
theorem lf_g {M : mm_M} {f : Nat → Int32} (h : b01 (LBF M f) = 1) {s b : Int} (q : 0 ≤ s ∧ s ≤ evF f ∧ 0 ≤ b ∧ b < (f 1).toInt) : (M.1 106 (6 * s + b).toNat).toInt = boF f b s := b01_e h s b q.1 q.2.2.1 q.2.2.2 q.2.1
def EDQ (M : mm_M) (f : Nat → Int32) (a s : Int) : Prop := ∀ t : Int, s < t → 0 ≤ t → t ≤ evF f → (M.1 107 t.toNat).toInt = edF f a t
theorem dq_0 (M : mm_M) (f : Nat → Int32) (a s : Int) (h : evF f ≤ s) : b01 (EDQ M f a s) = 1 := b01_i (fun t h1 h2 h3 => by omega)
theorem dq_s {M N : mm_M} {f : Nat → Int32} {a s v : Int} (e : N = wI M 107 s.toNat (sI v)) (h : b01 (EDQ M f a s) = 1) (q : (-2147483648 ≤ v ∧ v ≤ 2147483647) ∧ v = edF f a s ∧ 0 ≤ s) : b01 (EDQ N f a (s + (-1))) = 1 := b01_i (fun t h1 h2 h3 => by
  by_cases c : t = s
  · rw [c, wI_at e, sI_t q.1]; exact q.2.1
  · rw [wI_ne e (show t.toNat ≠ s.toNat by omega)]; exact b01_e h t (by omega) h2 h3)
theorem dq_g {M : mm_M} {f : Nat → Int32} {a s : Int} (h : b01 (EDQ M f a s) = 1) (t : Int) (q : s < t ∧ 0 ≤ t ∧ t ≤ evF f) : (M.1 107 t.toNat).toInt = edF f a t := b01_e h t q.1 q.2.1 q.2.2
theorem dq_c {M N : mm_M} {f : Nat → Int32} {a s : Int} (e : N.1 107 = M.1 107) (h : b01 (EDQ M f a s) = 1) : b01 (EDQ N f a s) = 1 := b01_i (by unfold EDQ; rw [e]; exact b01_e h)
/-- a visit leads to a set of the kinds there -/
theorem bo_ev {f : Nat → Int32} {b s : Int} (hk : 0 ≤ (f 26).toInt ∧ (f 26).toInt ≤ 8) (hs : 0 ≤ s ∧ s ≤ evF f) : -1 ≤ boF f b s ∧ boF f b s < (f 26).toInt ∧ (boF f b s = -1 ∨ (0 ≤ orI s (pw2 (boF f b s)) ∧ orI s (pw2 (boF f b s)) ≤ evF f ∧ (¬ iiF s (boF f b s) = 0 ∨ s < orI s (pw2 (boF f b s))))) := by
  have l := boF_lt f b s hk.1
  have m := bo_m1g f b s
  refine ⟨m, l, ?_⟩
  by_cases c : boF f b s = -1
  · exact Or.inl c
  · right
    have e : evF f = pw2 (f 26).toInt - 1 := rfl
    have u := or_lt (s := s) (k := boF f b s) (K := (f 26).toInt) ⟨hs.1, by omega, by omega, l, hk.2⟩
    have p : pw2 (f 26).toInt ≤ 256 := pw2_m (show (f 26).toInt ≤ 8 by omega)
    refine ⟨u.1, by omega, ?_⟩
    by_cases d : iiF s (boF f b s) = 0
    · exact Or.inr (ii_orI ⟨hs.1, by omega, by omega, by omega⟩ d)
    · exact Or.inl d
theorem evF_b {f : Nat → Int32} (hk : 0 ≤ (f 26).toInt ∧ (f 26).toInt ≤ 8) : 0 ≤ evF f ∧ evF f ≤ 255 := by
  have e : evF f = pw2 (f 26).toInt - 1 := rfl
  have p : pw2 (f 26).toInt ≤ 256 := pw2_m (show (f 26).toInt ≤ 8 by omega)
  have := pw2_p (f 26).toInt
  omega
def ERW (M : mm_M) (f : Nat → Int32) (m n : Int) : Prop := ∀ i : Nat, (i : Int) < n → (M.1 108 i).toInt = roB f m i
theorem er_0 (M : mm_M) (f : Nat → Int32) (m : Int) : b01 (ERW M f m 0) = 1 := b01_i (fun i h => by omega)
theorem er_s {M N : mm_M} {f : Nat → Int32} {m n n' v : Int} (h : b01 (ERW M f m n) = 1) (e : N = wI M 108 n.toNat (sI v)) (q : 0 ≤ n ∧ n' = n + 1 ∧ (-2147483648 ≤ v ∧ v ≤ 2147483647) ∧ v = roB f m n.toNat) : b01 (ERW N f m n') = 1 := b01_i (fun i hi => by
  by_cases c : i = n.toNat
  · rw [c, wI_at e, sI_t q.2.2.1]; exact q.2.2.2
  · rw [wI_ne e c]; exact b01_e h i (by omega))
/-- the ending's buyers into a tray -/
noncomputable def lsJ (f : Nat → Int32) (g : Nat → Int64) (a n : Nat) : Nat → Int64 := fun j => if a ≤ j ∧ j < a + n then sJ (roB f (enF f (-1)) (j - a)) else g j
theorem ls_0 (f : Nat → Int32) (g : Nat → Int64) (a : Nat) : b01 (g = lsJ f g a (0 : Int).toNat) = 1 := b01_i (by funext j; unfold lsJ; rw [if_neg (by omega)])
theorem ls_s {M N : mm_M} {f : Nat → Int32} {g : Nat → Int64} {a p : Nat} {x x' v : Int} (h : b01 (M.2.1 117 = lsJ f g a x.toNat) = 1) (e : N = wJ M 117 p (sJ v)) (q : 0 ≤ x ∧ x' = x + 1 ∧ p = a + x.toNat ∧ v = roB f (enF f (-1)) x.toNat) : b01 (N.2.1 117 = lsJ f g a x'.toNat) = 1 := b01_i (by
  rw [uJ_w e, b01_e h]
  funext j
  unfold uJ lsJ
  by_cases c : j = p
  · rw [if_pos c, if_pos (by omega), q.2.2.2, show j - a = x.toNat by omega]
  · rw [if_neg c]
    by_cases d : a ≤ j ∧ j < a + x.toNat
    · rw [if_pos d, if_pos (by omega)]
    · rw [if_neg d, if_neg (by omega)])
/-- lists(): how many, or why not -/
def lsA (no m n : Int) : Int := if no = 0 then (if m = -1 then -5 else if m < n then m else n) else no
theorem lsA_s (no m n : Int) : (¬ no = 0 ∧ lsA no m n = no) ∨ (no = 0 ∧ m = -1 ∧ lsA no m n = -5) ∨ (no = 0 ∧ ¬ m = -1 ∧ m < n ∧ lsA no m n = m) ∨ (no = 0 ∧ ¬ m = -1 ∧ ¬ m < n ∧ lsA no m n = n) := by
  unfold lsA; repeat' split
  all_goals omega
noncomputable def ebA (f : Nat → Int32) (i : Int) : Int := if i < 0 then -3 else if i < enF f (-1) then roB f (enF f (-1)) i.toNat else -1
theorem ebA_s (f : Nat → Int32) (i : Int) : (i < 0 ∧ ebA f i = -3) ∨ (0 ≤ i ∧ i < enF f (-1) ∧ ebA f i = roB f (enF f (-1)) i.toNat) ∨ (0 ≤ i ∧ ¬ i < enF f (-1) ∧ ebA f i = -1) := by
  unfold ebA; repeat' split
  all_goals omega
theorem nbC_s (f : Nat → Int32) (s v b : Int) : nbC f s v b ∨ boF f b s = -1 ∨ ¬ iiF s (boF f b s) = 0 ∨ ¬ edF f (-1) (orI s (pw2 (boF f b s))) = v := by
  unfold nbC
  by_cases h1 : boF f b s = -1
  · exact Or.inr (Or.inl h1)
  by_cases h2 : iiF s (boF f b s) = 0
  · by_cases h3 : edF f (-1) (orI s (pw2 (boF f b s))) = v
    · exact Or.inl ⟨h1, h2, h3⟩
    · exact Or.inr (Or.inr (Or.inr h3))
  · exact Or.inr (Or.inr (Or.inl h2))
theorem nbS_t {f : Nat → Int32} {s v b b' : Int} (hb : b < 6 ∧ b' = b + 1) : ((¬ boF f b s = -1 ∧ iiF s (boF f b s) = 0 ∧ edF f (-1) (orI s (pw2 (boF f b s))) = v) ∧ nbS f s v (6 - b).toNat b = b) ∨ ((boF f b s = -1 ∨ ¬ iiF s (boF f b s) = 0 ∨ ¬ edF f (-1) (orI s (pw2 (boF f b s))) = v) ∧ nbS f s v (6 - b).toNat b = nbS f s v (6 - b').toNat b') := by
  rcases nbS_s (f := f) (s := s) (v := v) hb with q | q
  · exact Or.inl ⟨q.1, q.2⟩
  · refine Or.inr ⟨?_, q.2⟩
    rcases nbC_s f s v b with r | r
    · exact absurd r q.1
    · exact r
/-! rows of the reference that are put back -/
def SMJ (k : Nat) (f g : Nat → Int32) : Prop := ∀ j, j ≠ k → g j = f j
theorem smj_0 {M : mm_M} (k : Nat) {f : Nat → Int32} (h : M.1 99 = f) : b01 (SMJ k f (M.1 99)) = 1 := b01_i (fun j _ => by rw [h])
theorem smj_w {M N : mm_M} {k : Nat} {f : Nat → Int32} {v : Int32} (e : N = wI M 99 k v) (h : b01 (SMJ k f (M.1 99)) = 1) : b01 (SMJ k f (N.1 99)) = 1 := b01_i (fun j hj => (wI_ne e hj).trans (b01_e h j hj))
theorem smj_c {M N : mm_M} {k : Nat} {f : Nat → Int32} (h : b01 (SMJ k f (M.1 99)) = 1) (e : N.1 99 = M.1 99) : b01 (SMJ k f (N.1 99)) = 1 := b01_i (by unfold SMJ; rw [e]; exact b01_e h)
theorem smj_e {M N : mm_M} {k : Nat} {f : Nat → Int32} {v : Int} (e : N = wI M 99 k (sI v)) (h : b01 (SMJ k f (M.1 99)) = 1) (hv : v = (f k).toInt) : b01 (N.1 99 = f) = 1 := b01_i (by
  funext j
  by_cases c : j = k
  · rw [c, wI_at e, hv, sI_o]
  · exact (wI_ne e c).trans (b01_e h j c))
theorem eq9_t {M N : mm_M} {f : Nat → Int32} (h : b01 (M.1 99 = f) = 1) (e : N.1 99 = M.1 99) : b01 (N.1 99 = f) = 1 := b01_i (e.trans (b01_e h))
