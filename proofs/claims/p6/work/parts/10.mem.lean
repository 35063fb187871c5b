-- THE POOL: all cells of the class and of the reference, by a fixed layout (wip/gen/layout.py); a memory is three maps: ints, longs, references (as places of the pool)
abbrev mm_M : Type := (Nat → Nat → Int32) × (Nat → Nat → Int64) × (Nat → Nat → Nat)
def mm_N : Nat := 118
def mm_kl : List Nat := [10, 100, 6, 100, 100, 100, 100, 6, 100, 100, 100, 100, 8, 100, 100, 8, 100, 100, 5, 103, 8, 100, 100, 8, 100, 100, 8, 100, 100, 8, 100, 100, 8, 100, 100, 8, 100, 100, 8, 100, 100, 8, 100, 100, 8, 100, 100, 8, 100, 100, 104, 9, 102, 9, 102, 9, 102, 9, 102, 105, 2, 6, 100, 100, 100, 100, 8, 100, 100, 2, 6, 100, 100, 100, 100, 8, 100, 100, 7, 100, 100, 3, 100, 100, 100, 100, 100, 1, 4, 100, 100, 100, 102, 102, 102, 0, 100, 100, 11, 100, 101, 100, 100, 100, 100, 100, 100, 100, 100, 101, 102, 102, 102, 100, 100, 100, 100, 102]
def mm_nl : List Nat := [0, 900, 0, 6, 6, 6, 900, 0, 6, 6, 6, 900, 0, 8, 8, 0, 8, 8, 0, 10, 0, 8, 8, 0, 8, 8, 0, 8, 8, 0, 8, 8, 0, 8, 8, 0, 8, 8, 0, 8, 8, 0, 8, 8, 0, 8, 8, 0, 8, 8, 4, 0, 40, 0, 40, 0, 40, 0, 40, 2, 0, 0, 6, 6, 6, 900, 0, 8, 8, 0, 0, 6, 6, 6, 900, 0, 8, 8, 0, 901, 901, 0, 864, 8, 8, 8, 64, 0, 0, 1536, 256, 256, 256, 256, 6, 0, 256, 10, 0, 3543, 2, 900, 1181, 900, 8, 23, 1536, 256, 256, 256, 256, 256, 6, 256, 9, 4, 4, 160]
def mm_ftl : List (List Nat) := [[2, 2, 2, 0, 0], [2], [0, 2, 2], [2, 2, 2, 2, 2, 2, 0], [2, 2, 2, 2, 2, 2, 2, 1, 1, 2, 2, 0, 0, 0], [2, 0, 0], [0, 0, 2, 2, 2, 2, 0, 0, 0, 0, 0], [2, 2, 0, 2, 2, 0, 0], [0, 2, 2, 0, 0, 0, 0, 0, 0], [2, 0, 0], [2, 0, 0, 0, 2, 2, 2, 2, 2, 2, 2, 2, 2, 2, 2, 2], [0, 2, 2, 2, 2, 0, 0, 0, 0, 0, 0, 0, 0, 0, 0, 2, 2, 2, 0, 2, 2, 2, 2, 2, 2, 2, 1, 2, 2, 2, 2, 2]]
def mm_kc (i : Nat) : Nat := mm_kl.getD i 999
def mm_kn (i : Nat) : Nat := mm_nl.getD i 0
def mm_ft (ci : Nat) : List Nat := mm_ftl.getD ci []
def mm_ty (i : Nat) : FieldType := if mm_kc i = 100 then .int else if mm_kc i = 101 then .boolean else if mm_kc i = 102 then .long else if mm_kc i = 103 then .object RX9 else if mm_kc i = 104 then .object RX10 else .object RX2
def mm_fv (ad : Nat → Nat) (M : mm_M) (i k t : Nat) : Value := if t = 0 then .int (M.1 i k) else if t = 1 then .long (M.2.1 i k) else .ref (ad (M.2.2 i k))
def mm_fl (ad : Nat → Nat) (M : mm_M) (i : Nat) : Nat → List Nat → List Value
  | _, [] => []
  | k, t :: ts => mm_fv ad M i k t :: mm_fl ad M i (k + 1) ts
def mm_ce (ad : Nat → Nat) (cA : Nat → ClassId) (M : mm_M) (i : Nat) : va_E :=
  if mm_kc i < 100 then .inr (mm_kc i, mm_fl ad M i 0 (mm_ft (mm_kc i)))
  else .inl (cA i, mm_kn i, if mm_kc i = 102 then .inr (.inl (M.2.1 i)) else if mm_kc i < 102 then .inl (M.1 i) else .inr (.inr (.inr (.inr (fun k => some (ad (M.2.2 i k)))))))
def mm_w (ad : Nat → Nat) (cA : Nat → ClassId) (M : mm_M) : va_W := (List.range mm_N).map (fun i => (ad i, mm_ce ad cA M i))
def u2 {α : Type} (f : Nat → Nat → α) (i k : Nat) (v : α) : Nat → Nat → α := fun a b => if a = i then (if b = k then v else f a b) else f a b
abbrev wI (M : mm_M) (i k : Nat) (v : Int32) : mm_M := (u2 M.1 i k v, M.2)
abbrev wJ (M : mm_M) (i k : Nat) (v : Int64) : mm_M := (M.1, u2 M.2.1 i k v, M.2.2)
abbrev wP (M : mm_M) (i k : Nat) (v : Nat) : mm_M := (M.1, M.2.1, u2 M.2.2 i k v)
theorem u2_s {α : Type} (f : Nat → Nat → α) (i k : Nat) (v : α) : u2 f i k v i k = v := by simp [u2]
theorem u2_a {α : Type} (f : Nat → Nat → α) {i k a b : Nat} (v : α) (h : a ≠ i) : u2 f i k v a b = f a b := by simp [u2, h]
theorem u2_b {α : Type} (f : Nat → Nat → α) {i k a b : Nat} (v : α) (h : b ≠ k) : u2 f i k v a b = f a b := by simp [u2, h]
theorem u2_e {α : Type} {f : Nat → Nat → α} {i k : Nat} {v : α} (h : f i k = v) : u2 f i k v = f := by
  funext a b
  unfold u2
  by_cases ha : a = i
  · by_cases hb : b = k
    · rw [if_pos ha, if_pos hb, ha, hb, h]
    · rw [if_pos ha, if_neg hb]
  · rw [if_neg ha]
theorem wI_e {M : mm_M} {i k : Nat} {v : Int32} (h : M.1 i k = v) : wI M i k v = M := by unfold wI; rw [u2_e h]
theorem wJ_e {M : mm_M} {i k : Nat} {v : Int64} (h : M.2.1 i k = v) : wJ M i k v = M := by unfold wJ; rw [u2_e h]
theorem wP_e {M : mm_M} {i k : Nat} {v : Nat} (h : M.2.2 i k = v) : wP M i k v = M := by unfold wP; rw [u2_e h]
theorem mm_fl_len (ad : Nat → Nat) (M : mm_M) (i : Nat) : ∀ (ts : List Nat) (k : Nat), (mm_fl ad M i k ts).length = ts.length
  | [], _ => rfl
  | _ :: ts, k => by rw [mm_fl, List.length_cons, List.length_cons, mm_fl_len ad M i ts (k + 1)]
theorem mm_fl_get (ad : Nat → Nat) (M : mm_M) (i t : Nat) : ∀ (ts : List Nat) (k0 k : Nat), ts[k]? = some t → (mm_fl ad M i k0 ts)[k]? = some (mm_fv ad M i (k0 + k) t)
  | [], _, _, h => by simp at h
  | u :: ts, k0, 0, h => by
    rw [List.getElem?_cons_zero] at h
    cases h
    rw [mm_fl, List.getElem?_cons_zero]; rfl
  | u :: ts, k0, k + 1, h => by
    rw [List.getElem?_cons_succ] at h
    rw [mm_fl, List.getElem?_cons_succ, mm_fl_get ad M i t ts (k0 + 1) k h]
    congr 2; omega
theorem mm_fl_congr (ad : Nat → Nat) (M M' : mm_M) (i : Nat) : ∀ (ts : List Nat) (k0 : Nat), (∀ b t, k0 ≤ b → mm_fv ad M' i b t = mm_fv ad M i b t) → mm_fl ad M' i k0 ts = mm_fl ad M i k0 ts
  | [], _, _ => rfl
  | u :: ts, k0, h => by
    rw [mm_fl, mm_fl, h k0 u (Nat.le_refl _), mm_fl_congr ad M M' i ts (k0 + 1) (fun b t hb => h b t (by omega))]
theorem mm_fl_set (ad : Nat → Nat) (M M' : mm_M) (i t : Nat) : ∀ (ts : List Nat) (k0 k : Nat), ts[k]? = some t → (∀ b u, b ≠ k0 + k → mm_fv ad M' i b u = mm_fv ad M i b u) → (mm_fl ad M i k0 ts).set k (mm_fv ad M' i (k0 + k) t) = mm_fl ad M' i k0 ts
  | [], _, _, h, _ => by simp at h
  | u :: ts, k0, 0, h, hb => by
    rw [List.getElem?_cons_zero] at h
    cases h
    rw [mm_fl, mm_fl, List.set_cons_zero, mm_fl_congr ad M M' i ts (k0 + 1) (fun b t h => hb b t (by omega))]; rfl
  | u :: ts, k0, k + 1, h, hb => by
    rw [List.getElem?_cons_succ] at h
    rw [mm_fl, mm_fl, List.set_cons_succ, hb k0 u (by omega), ← mm_fl_set ad M M' i t ts (k0 + 1) k h (fun b u h => hb b u (by omega))]
    congr 3; omega
theorem mm_w_get (ad : Nat → Nat) (cA : Nat → ClassId) (M : mm_M) {i : Nat} (h : i < mm_N) : (mm_w ad cA M)[i]? = some (ad i, mm_ce ad cA M i) := by
  unfold mm_w
  rw [List.getElem?_map, List.getElem?_range h]; rfl
theorem mm_w_lt {ad : Nat → Nat} {cA : Nat → ClassId} {M : mm_M} {i : Nat} {q : Nat × va_E} (h : (mm_w ad cA M)[i]? = some q) : i < mm_N ∧ q = (ad i, mm_ce ad cA M i) := by
  have hl : i < mm_N := by
    have := (List.getElem?_eq_some_iff.mp h).1
    simpa [mm_w] using this
  refine ⟨hl, ?_⟩
  rw [mm_w_get ad cA M hl] at h
  exact (Option.some.inj h).symm
theorem mm_w_set (ad : Nat → Nat) (cA : Nat → ClassId) (M M' : mm_M) {i : Nat} (h : i < mm_N) {e : va_E} (hi : mm_ce ad cA M' i = e) (ho : ∀ j, j ≠ i → mm_ce ad cA M' j = mm_ce ad cA M j) : (mm_w ad cA M).set i (ad i, e) = mm_w ad cA M' := by
  apply List.ext_getElem?
  intro j
  by_cases hj : j < mm_N
  · rw [mm_w_get ad cA M' hj]
    by_cases hji : j = i
    · subst hji
      rw [List.getElem?_set_self (by simpa [mm_w] using hj), hi]
    · rw [List.getElem?_set_ne (fun q => hji q.symm), mm_w_get ad cA M hj, ho j hji]
  · rw [List.getElem?_eq_none (by simp [mm_w]; omega), List.getElem?_eq_none (by simp [mm_w]; omega)]
theorem mm_ce_I (ad : Nat → Nat) (cA : Nat → ClassId) (M : mm_M) (i k : Nat) (v : Int32) {j : Nat} (h : j ≠ i) : mm_ce ad cA (wI M i k v) j = mm_ce ad cA M j := by
  unfold mm_ce
  have h1 : (wI M i k v).1 j = M.1 j := by funext b; exact u2_a _ _ h
  rw [mm_fl_congr ad M (wI M i k v) j _ 0 (fun b t _ => by unfold mm_fv; rw [h1]), h1]
theorem mm_ce_J (ad : Nat → Nat) (cA : Nat → ClassId) (M : mm_M) (i k : Nat) (v : Int64) {j : Nat} (h : j ≠ i) : mm_ce ad cA (wJ M i k v) j = mm_ce ad cA M j := by
  unfold mm_ce
  have h1 : (wJ M i k v).2.1 j = M.2.1 j := by funext b; exact u2_a _ _ h
  rw [mm_fl_congr ad M (wJ M i k v) j _ 0 (fun b t _ => by unfold mm_fv; rw [h1]), h1]
theorem mm_ce_P (ad : Nat → Nat) (cA : Nat → ClassId) (M : mm_M) (i k : Nat) (v : Nat) {j : Nat} (h : j ≠ i) : mm_ce ad cA (wP M i k v) j = mm_ce ad cA M j := by
  unfold mm_ce
  have h1 : (wP M i k v).2.2 j = M.2.2 j := by funext b; exact u2_a _ _ h
  rw [mm_fl_congr ad M (wP M i k v) j _ 0 (fun b t _ => by unfold mm_fv; rw [h1]), h1]
theorem mm_ob (ad : Nat → Nat) (cA : Nat → ClassId) (M : mm_M) {i ci : Nat} (h : mm_kc i = ci) (hc : ci < 100) : mm_ce ad cA M i = .inr (ci, mm_fl ad M i 0 (mm_ft ci)) := by
  unfold mm_ce; rw [h, if_pos hc]
theorem mm_ai (ad : Nat → Nat) (cA : Nat → ClassId) (M : mm_M) {i : Nat} (h : mm_kc i = 100 ∨ mm_kc i = 101) : mm_ce ad cA M i = .inl (cA i, mm_kn i, .inl (M.1 i)) := by
  unfold mm_ce; rcases h with h | h <;> simp [h]
theorem mm_aj (ad : Nat → Nat) (cA : Nat → ClassId) (M : mm_M) {i : Nat} (h : mm_kc i = 102) : mm_ce ad cA M i = .inl (cA i, mm_kn i, .inr (.inl (M.2.1 i))) := by
  unfold mm_ce; simp [h]
theorem mm_ap (ad : Nat → Nat) (cA : Nat → ClassId) (M : mm_M) {i : Nat} (h : 103 ≤ mm_kc i) : mm_ce ad cA M i = .inl (cA i, mm_kn i, .inr (.inr (.inr (.inr (fun k => some (ad (M.2.2 i k))))))) := by
  unfold mm_ce
  rw [if_neg (by omega), if_neg (by omega), if_neg (by omega)]
