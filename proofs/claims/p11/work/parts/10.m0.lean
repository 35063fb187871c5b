section
-- THE POOL: all cells of the class and of the reference, by a fixed layout (wip/gen/layout.py); a memory is three maps: ints, longs, references (as places of the pool)
abbrev mm_M : Type := (Nat → Nat → Int32) × (Nat → Nat → Int64) × (Nat → Nat → Nat)
def mm_N : Nat := 118
def mm_kl : List Nat := [10, 100, 6, 100, 100, 100, 100, 6, 100, 100, 100, 100, 8, 100, 100, 8, 100, 100, 5, 103, 8, 100, 100, 8, 100, 100, 8, 100, 100, 8, 100, 100, 8, 100, 100, 8, 100, 100, 8, 100, 100, 8, 100, 100, 8, 100, 100, 8, 100, 100, 104, 9, 102, 9, 102, 9, 102, 9, 102, 105, 2, 6, 100, 100, 100, 100, 8, 100, 100, 2, 6, 100, 100, 100, 100, 8, 100, 100, 7, 100, 100, 3, 100, 100, 100, 100, 100, 1, 4, 100, 100, 100, 102, 102, 102, 0, 100, 100, 11, 100, 101, 100, 100, 100, 100, 100, 100, 100, 100, 101, 102, 102, 102, 100, 100, 100, 100, 102]
def mm_nl : List Nat := [0, 900, 0, 6, 6, 6, 900, 0, 6, 6, 6, 900, 0, 8, 8, 0, 8, 8, 0, 10, 0, 8, 8, 0, 8, 8, 0, 8, 8, 0, 8, 8, 0, 8, 8, 0, 8, 8, 0, 8, 8, 0, 8, 8, 0, 8, 8, 0, 8, 8, 4, 0, 40, 0, 40, 0, 40, 0, 40, 2, 0, 0, 6, 6, 6, 900, 0, 8, 8, 0, 0, 6, 6, 6, 900, 0, 8, 8, 0, 901, 901, 0, 864, 8, 8, 8, 64, 0, 0, 1536, 256, 256, 256, 256, 6, 0, 256, 10, 0, 3543, 2, 900, 1181, 900, 8, 23, 1536, 256, 256, 256, 256, 256, 6, 256, 9, 4, 4, 160]
def mm_ftl : List (List Nat) := [[2, 2, 2, 0, 0], [2], [0, 2, 2], [2, 2, 2, 2, 2, 2, 0], [2, 2, 2, 2, 2, 2, 2, 1, 1, 2, 2, 0, 0, 0], [2, 0, 0], [0, 0, 2, 2, 2, 2, 0, 0, 0, 0, 0], [2, 2, 0, 2, 2, 0, 0], [0, 2, 2, 0, 0, 0, 0, 0, 0], [2, 0, 0], [2, 0, 0, 0, 2, 2, 2, 2, 2, 2, 2, 2, 2, 2, 2, 2], [0, 2, 2, 2, 2, 0, 0, 0, 0, 0, 0, 0, 0, 0, 0, 2, 2, 2, 0, 2, 2, 2, 2, 2, 2, 2, 1, 2, 2, 2, 2, 2]]
def mm_kc (i : Nat) : Nat := mm_kl.getD i 999
def mm_kn (i : Nat) : Nat := mm_nl.getD i 0
def mm_ft (ci : Nat) : List Nat := mm_ftl.getD ci []
def mm_ty (i : Nat) : FieldType := if mm_kc i = 100 then .int else if mm_kc i = 101 then .boolean else if mm_kc i = 102 then .long else if mm_kc i = 103 then .object RX9 else if mm_kc i = 104 then .object RX10 else .object RX2
def mm_fv (ad : Nat → Nat) (M : mm_M) (i k t : Nat) : Value := if t = 0 then .int (M.1 i k) else if t = 1 then .long (M.2.1 i k) else .ref (ad (M.2.2 i k))
def mm_fl (ad : Nat → Nat) (M : mm_M) (i : Nat) : Nat → List Nat → List Value
  | _, [] => []
  | k, t :: ts => mm_fv ad M i k t :: mm_fl ad M i (k + 1) ts
def mm_ce (ad : Nat → Nat) (cA : Nat → ClassId) (M : mm_M) (i : Nat) : va_E :=
  if mm_kc i < 100 then .inr (mm_kc i, mm_fl ad M i 0 (mm_ft (mm_kc i)))
  else .inl (cA i, mm_kn i, if mm_kc i = 102 then .inr (.inl (M.2.1 i)) else if mm_kc i < 102 then .inl (M.1 i) else .inr (.inr (.inr (.inr (fun k => some (ad (M.2.2 i k)))))))
def mm_w (ad : Nat → Nat) (cA : Nat → ClassId) (M : mm_M) : va_W := (List.range mm_N).map (fun i => (ad i, mm_ce ad cA M i))
def u2 {α : Type} (f : Nat → Nat → α) (i k : Nat) (v : α) : Nat → Nat → α := fun a b => if a = i then (if b = k then v else f a b) else f a b
abbrev wI (M : mm_M) (i k : Nat) (v : Int32) : mm_M := (u2 M.1 i k v, M.2)
abbrev wJ (M : mm_M) (i k : Nat) (v : Int64) : mm_M := (M.1, u2 M.2.1 i k v, M.2.2)
abbrev wP (M : mm_M) (i k : Nat) (v : Nat) : mm_M := (M.1, M.2.1, u2 M.2.2 i k v)
theorem u2_s {α : Type} (f : Nat → Nat → α) (i k : Nat) (v : α) : u2 f i k v i k = v := by simp [u2]
theorem u2_a {α : Type} (f : Nat → Nat → α) {i k a b : Nat} (v : α) (h : a ≠ i) : u2 f i k v a b = f a b := by simp [u2, h]
theorem u2_b {α : Type} (f : Nat → Nat → α) {i k a b : Nat} (v : α) (h : b ≠ k) : u2 f i k v a b = f a b := by simp [u2, h]
theorem u2_e {α : Type} {f : Nat → Nat → α} {i k : Nat} {v : α} (h : f i k = v) : u2 f i k v = f := by
  funext a b
  unfold u2
  by_cases ha : a = i
  · by_cases hb : b = k
    · rw [if_pos ha, if_pos hb, ha, hb, h]
    · rw [if_pos ha, if_neg hb]
  · rw [if_neg ha]
theorem wI_e {M : mm_M} {i k : Nat} {v : Int32} (h : M.1 i k = v) : wI M i k v = M := by unfold wI; rw [u2_e h]
theorem wJ_e {M : mm_M} {i k : Nat} {v : Int64} (h : M.2.1 i k = v) : wJ M i k v = M := by unfold wJ; rw [u2_e h]
theorem wP_e {M : mm_M} {i k : Nat} {v : Nat} (h : M.2.2 i k = v) : wP M i k v = M := by unfold wP; rw [u2_e h]
theorem mm_fl_len (ad : Nat → Nat) (M : mm_M) (i : Nat) : ∀ (ts : List Nat) (k : Nat), (mm_fl ad M i k ts).length = ts.length
  | [], _ => rfl
  | _ :: ts, k => by rw [mm_fl, List.length_cons, List.length_cons, mm_fl_len ad M i ts (k + 1)]
theorem mm_fl_get (ad : Nat → Nat) (M : mm_M) (i t : Nat) : ∀ (ts : List Nat) (k0 k : Nat), ts[k]? = some t → (mm_fl ad M i k0 ts)[k]? = some (mm_fv ad M i (k0 + k) t)
  | [], _, _, h => by simp at h
  | u :: ts, k0, 0, h => by
    rw [List.getElem?_cons_zero] at h
    cases h
    rw [mm_fl, List.getElem?_cons_zero]; rfl
  | u :: ts, k0, k + 1, h => by
    rw [List.getElem?_cons_succ] at h
    rw [mm_fl, List.getElem?_cons_succ, mm_fl_get ad M i t ts (k0 + 1) k h]
    congr 2; omega
theorem mm_fl_congr (ad : Nat → Nat) (M M' : mm_M) (i : Nat) : ∀ (ts : List Nat) (k0 : Nat), (∀ b t, k0 ≤ b → mm_fv ad M' i b t = mm_fv ad M i b t) → mm_fl ad M' i k0 ts = mm_fl ad M i k0 ts
  | [], _, _ => rfl
  | u :: ts, k0, h => by
    rw [mm_fl, mm_fl, h k0 u (Nat.le_refl _), mm_fl_congr ad M M' i ts (k0 + 1) (fun b t hb => h b t (by omega))]
theorem mm_fl_set (ad : Nat → Nat) (M M' : mm_M) (i t : Nat) : ∀ (ts : List Nat) (k0 k : Nat), ts[k]? = some t → (∀ b u, b ≠ k0 + k → mm_fv ad M' i b u = mm_fv ad M i b u) → (mm_fl ad M i k0 ts).set k (mm_fv ad M' i (k0 + k) t) = mm_fl ad M' i k0 ts
  | [], _, _, h, _ => by simp at h
  | u :: ts, k0, 0, h, hb => by
    rw [List.getElem?_cons_zero] at h
    cases h
    rw [mm_fl, mm_fl, List.set_cons_zero, mm_fl_congr ad M M' i ts (k0 + 1) (fun b t h => hb b t (by omega))]; rfl
  | u :: ts, k0, k + 1, h, hb => by
    rw [List.getElem?_cons_succ] at h
    rw [mm_fl, mm_fl, List.set_cons_succ, hb k0 u (by omega), ← mm_fl_set ad M M' i t ts (k0 + 1) k h (fun b u h => hb b u (by omega))]
    congr 3; omega
theorem mm_w_get (ad : Nat → Nat) (cA : Nat → ClassId) (M : mm_M) {i : Nat} (h : i < mm_N) : (mm_w ad cA M)[i]? = some (ad i, mm_ce ad cA M i) := by
  unfold mm_w
  rw [List.getElem?_map, List.getElem?_range h]; rfl
theorem mm_w_lt {ad : Nat → Nat} {cA : Nat → ClassId} {M : mm_M} {i : Nat} {q : Nat × va_E} (h : (mm_w ad cA M)[i]? = some q) : i < mm_N ∧ q = (ad i, mm_ce ad cA M i) := by
  have hl : i < mm_N := by
    have := (List.getElem?_eq_some_iff.mp h).1
    simpa [mm_w] using this
  refine ⟨hl, ?_⟩
  rw [mm_w_get ad cA M hl] at h
  exact (Option.some.inj h).symm
theorem mm_w_set (ad : Nat → Nat) (cA : Nat → ClassId) (M M' : mm_M) {i : Nat} (h : i < mm_N) {e : va_E} (hi : mm_ce ad cA M' i = e) (ho : ∀ j, j ≠ i → mm_ce ad cA M' j = mm_ce ad cA M j) : (mm_w ad cA M).set i (ad i, e) = mm_w ad cA M' := by
  apply List.ext_getElem?
  intro j
  by_cases hj : j < mm_N
  · rw [mm_w_get ad cA M' hj]
    by_cases hji : j = i
    · subst hji
      rw [List.getElem?_set_self (by simpa [mm_w] using hj), hi]
    · rw [List.getElem?_set_ne (fun q => hji q.symm), mm_w_get ad cA M hj, ho j hji]
  · rw [List.getElem?_eq_none (by simp [mm_w]; omega), List.getElem?_eq_none (by simp [mm_w]; omega)]
theorem mm_ce_I (ad : Nat → Nat) (cA : Nat → ClassId) (M : mm_M) (i k : Nat) (v : Int32) {j : Nat} (h : j ≠ i) : mm_ce ad cA (wI M i k v) j = mm_ce ad cA M j := by
  unfold mm_ce
  have h1 : (wI M i k v).1 j = M.1 j := by funext b; exact u2_a _ _ h
  rw [mm_fl_congr ad M (wI M i k v) j _ 0 (fun b t _ => by unfold mm_fv; rw [h1]), h1]
theorem mm_ce_J (ad : Nat → Nat) (cA : Nat → ClassId) (M : mm_M) (i k : Nat) (v : Int64) {j : Nat} (h : j ≠ i) : mm_ce ad cA (wJ M i k v) j = mm_ce ad cA M j := by
  unfold mm_ce
  have h1 : (wJ M i k v).2.1 j = M.2.1 j := by funext b; exact u2_a _ _ h
  rw [mm_fl_congr ad M (wJ M i k v) j _ 0 (fun b t _ => by unfold mm_fv; rw [h1]), h1]
theorem mm_ce_P (ad : Nat → Nat) (cA : Nat → ClassId) (M : mm_M) (i k : Nat) (v : Nat) {j : Nat} (h : j ≠ i) : mm_ce ad cA (wP M i k v) j = mm_ce ad cA M j := by
  unfold mm_ce
  have h1 : (wP M i k v).2.2 j = M.2.2 j := by funext b; exact u2_a _ _ h
  rw [mm_fl_congr ad M (wP M i k v) j _ 0 (fun b t _ => by unfold mm_fv; rw [h1]), h1]
theorem mm_ob (ad : Nat → Nat) (cA : Nat → ClassId) (M : mm_M) {i ci : Nat} (h : mm_kc i = ci) (hc : ci < 100) : mm_ce ad cA M i = .inr (ci, mm_fl ad M i 0 (mm_ft ci)) := by
  unfold mm_ce; rw [h, if_pos hc]
theorem mm_ai (ad : Nat → Nat) (cA : Nat → ClassId) (M : mm_M) {i : Nat} (h : mm_kc i = 100 ∨ mm_kc i = 101) : mm_ce ad cA M i = .inl (cA i, mm_kn i, .inl (M.1 i)) := by
  unfold mm_ce; rcases h with h | h <;> simp [h]
theorem mm_aj (ad : Nat → Nat) (cA : Nat → ClassId) (M : mm_M) {i : Nat} (h : mm_kc i = 102) : mm_ce ad cA M i = .inl (cA i, mm_kn i, .inr (.inl (M.2.1 i))) := by
  unfold mm_ce; simp [h]
theorem mm_ap (ad : Nat → Nat) (cA : Nat → ClassId) (M : mm_M) {i : Nat} (h : 103 ≤ mm_kc i) : mm_ce ad cA M i = .inl (cA i, mm_kn i, .inr (.inr (.inr (.inr (fun k => some (ad (M.2.2 i k))))))) := by
  unfold mm_ce
  rw [if_neg (by omega), if_neg (by omega), if_neg (by omega)]
end
section
/-- the classes and the arrays of the pool, as the tables have them -/
def jj_K (dC : Nat → ClassId) (dI : Nat → Nat → Nat) (cA : Nat → ClassId) (U : State) : Prop := va_K (dC, dI) vwCl [] U ∧ ∀ i, i < mm_N → 100 ≤ mm_kc i → ArrOfT U (cA i) (mm_ty i) ∧ va_RA U (cA i) (mm_ty i)
theorem jj_K.moved {dC : Nat → ClassId} {dI : Nat → Nat → Nat} {cA : Nat → ClassId} {u U : State} (hvm : u.vm.Alike U.vm) (h : jj_K dC dI cA u) : jj_K dC dI cA U :=
  ⟨va_K.moved hvm h.1, fun i hi hk => ⟨arrOfT_moved hvm (h.2 i hi hk).1, (h.2 i hi hk).2.moved hvm⟩⟩
theorem jj_K.one {dC : Nat → ClassId} {dI : Nat → Nat → Nat} {cA : Nat → ClassId} {U : State} (h : jj_K dC dI cA U) {i : Nat} (hi : i < mm_N) (hk : 100 ≤ mm_kc i) {ty : FieldType} (ht : mm_ty i = ty) : va_K (dC, dI) vwCl [(cA i, ty)] U := by
  refine ⟨h.1.1, fun k q hq => ?_⟩
  cases k with
  | zero => cases hq; rw [← ht]; exact h.2 i hi hk
  | succ k => simp at hq
/-- the addresses of the pool are apart -/
def jj_D (ad : Nat → Nat) : Prop := ∀ i j, i < mm_N → j < mm_N → ad i = ad j → i = j
theorem jj_D.w {ad : Nat → Nat} (h : jj_D ad) (cA : Nat → ClassId) (M : mm_M) {A : Nat → Prop} (hA : ∀ i, i < mm_N → A (ad i)) : va_D A (mm_w ad cA M) := by
  refine ⟨fun i j x y hx hy hxy => ?_, fun k q hk => ?_⟩
  · obtain ⟨h1, rfl⟩ := mm_w_lt hx
    obtain ⟨h2, rfl⟩ := mm_w_lt hy
    exact h i j h1 h2 hxy
  · obtain ⟨h1, rfl⟩ := mm_w_lt hk
    exact hA k h1
def js_own (i : Nat) : String := if i = 0 then RX3 else if i = 1 then RX3 else if i = 2 then RX12 else RX12
def js_ix (i : Nat) : Nat := if i = 0 then 23 else if i = 1 then 31 else if i = 2 then 86 else 124
def js_tx (i : Nat) : String := if i = 0 then ";:+-*()[]=<>" else if i = 1 then "who    purse  mind   kind   price  group  gone   sold   shop   buyer  wants  lets   hidden odds   or     and    not    " else if i = 2 then " shop kind price group sold hidden buyer purse mind odds wants lets who gone and or not " else ";:+-*()[]=<>"
def js_len (i : Nat) : Nat := if i = 0 then 12 else if i = 1 then 119 else if i = 2 then 88 else 12
def js_byt (i : Nat) : List Int32 := if i = 0 then [59, 58, 43, 45, 42, 40, 41, 91, 93, 61, 60, 62] else if i = 1 then [119, 104, 111, 32, 32, 32, 32, 112, 117, 114, 115, 101, 32, 32, 109, 105, 110, 100, 32, 32, 32, 107, 105, 110, 100, 32, 32, 32, 112, 114, 105, 99, 101, 32, 32, 103, 114, 111, 117, 112, 32, 32, 103, 111, 110, 101, 32, 32, 32, 115, 111, 108, 100, 32, 32, 32, 115, 104, 111, 112, 32, 32, 32, 98, 117, 121, 101, 114, 32, 32, 119, 97, 110, 116, 115, 32, 32, 108, 101, 116, 115, 32, 32, 32, 104, 105, 100, 100, 101, 110, 32, 111, 100, 100, 115, 32, 32, 32, 111, 114, 32, 32, 32, 32, 32, 97, 110, 100, 32, 32, 32, 32, 110, 111, 116, 32, 32, 32, 32] else if i = 2 then [32, 115, 104, 111, 112, 32, 107, 105, 110, 100, 32, 112, 114, 105, 99, 101, 32, 103, 114, 111, 117, 112, 32, 115, 111, 108, 100, 32, 104, 105, 100, 100, 101, 110, 32, 98, 117, 121, 101, 114, 32, 112, 117, 114, 115, 101, 32, 109, 105, 110, 100, 32, 111, 100, 100, 115, 32, 119, 97, 110, 116, 115, 32, 108, 101, 116, 115, 32, 119, 104, 111, 32, 103, 111, 110, 101, 32, 97, 110, 100, 32, 111, 114, 32, 110, 111, 116, 32] else [59, 58, 43, 45, 42, 40, 41, 91, 93, 61, 60, 62]
/-- the String constants, by their places, and the two statics that String's own methods read -/
def jj_S (dI : Nat → Nat → Nat) (A : Nat → Prop) (U : State) : Prop := (∀ i, i < 4 → vk_S 1 [js_len i] [js_byt i] (fun _ => dI 1000 i) (fun _ => dI 1001 i) A U U.heap ∧ vk_R (js_own i) (js_ix i) (js_tx i) (dI 1000 i) U) ∧ va_Z "java/lang/String" "COMPACT_STRINGS" "Z" (.int 1) A U U.heap ∧ va_Zq "jdk/internal/util/Preconditions" "SIOOBE_FORMATTER" "Ljava/util/function/BiFunction;" A U U.heap
theorem jj_S.go {dI : Nat → Nat → Nat} {A B : Nat → Prop} {s U : State} (h : jj_S dI A s) (hAB : ∀ q, B q → A q) (hq : ∀ a : Nat, a < s.heap.size → ¬ A a → U.heap[a]? = s.heap[a]?) (hW : s.WarmedH U.vm) : jj_S dI B U :=
  ⟨fun i hi => ⟨(((h.1 i hi).1.kept hq).moved hW.alike).narrow hAB, (h.1 i hi).2.warm hW⟩, ((h.2.1.kept hq).moved hW.alike).narrow hAB, ((h.2.2.kept hq).moved hW.alike).narrow hAB⟩
/-- what stands during a method's walk -/
def jj_C (p : Program) (R : Room) (s : State) (m : MethodId) (args : Array Value) (c : Code) (cells slots : Nat) (cc : ByteArray) (nL : Nat) (own : String) (Ts : List Cond) (dC : Nat → ClassId) (dI : Nat → Nat → Nat) (ad : Nat → Nat) (cA : Nat → ClassId) (A : Nat → Prop) : Prop :=
  CallFix p m c cc nL s args Ts own ∧ jj_K dC dI cA s ∧ jj_D ad ∧ (∀ i, i < mm_N → A (ad i)) ∧ (∀ q, s.heap.size ≤ q → A q) ∧ cells ≤ R.cells ∧ slots ≤ R.slots ∧ jj_S dI A s
/-- THE JUDGEMENT: with memory M, at pc, these locals, this stack, the walk comes to its end -/
def jj (p : Program) (l : Launch) (e : Env) (R : Room) (s : State) (m : MethodId) (args : Array Value) (below : List Frame) (meth : Method) (c : Code) (cells slots : Nat) (Q : State → Prop) (nL : Nat) (dC : Nat → ClassId) (dI : Nat → Nat → Nat) (ad : Nat → Nat) (cA : Nat → ClassId) (A : Nat → Prop) (M : mm_M) (pc : Nat) (lv : List (Nat × Value)) (st : List Value) : Prop :=
  ∀ (H : Heap) (locs : List Loc) (ls : Array Slot), va_P (dC, dI) vwCl (mm_w ad cA M) H → va_S A s.heap H locs → lv_has ls nL lv → W p l e R s m args below meth c H locs cells slots Q (F0 m pc ls st)
/-- a field of an object, by its link: the words have it -/
def jj_F (Ts : List Cond) (own : String) (index ci k : Nat) : Prop := ∃ (C : String) (T : u_T) (N : Nat), vwCl[ci]? = some (C, T, N) ∧ k < N ∧ (∀ w ∈ u_ws C T N, w ∈ Ts) ∧ Cond.fieldLink own index (T k).1 (T k).2.1 (T k).2.2.1 ∈ Ts
/-- the same for a write -/
def jj_P (Ts : List Cond) (own : String) (index ci k : Nat) (ty : FieldType) : Prop := ∃ (C : String) (T : u_T) (N : Nat) (ty0 : Nat → FieldType), vwCl[ci]? = some (C, T, N) ∧ k < N ∧ (∀ w ∈ u_ws C T N, w ∈ Ts) ∧ Cond.fieldLink own index (T k).1 (T k).2.1 (T k).2.2.1 ∈ Ts ∧ (∀ k, k < N → parseFieldDescriptor (T k).2.2.1 = some (ty0 k)) ∧ (∀ a, a < N → ∀ b, b < N → a ≠ b → (T a).2.1 ≠ (T b).2.1) ∧ (T k).2.2.2 = false ∧ parseFieldDescriptor (T k).2.2.1 = some ty
section JJ
variable {p : Program} {l : Launch} {e : Env} {R : Room} {s : State} {m : MethodId} {args : Array Value} {below : List Frame} {meth : Method} {c : Code} {cells slots : Nat} {Q : State → Prop} {cc : ByteArray} {nL : Nat} {own : String} {Ts : List Cond} {dC : Nat → ClassId} {dI : Nat → Nat → Nat} {ad : Nat → Nat} {cA : Nat → ClassId} {A : Nat → Prop} {M : mm_M} {pc : Nat} {lv : List (Nat × Value)} {st : List Value}
theorem j_lv {lv' : List (Nat × Value)} (ks : List Nat) (h : lv_pick lv ks = lv') (k : jj p l e R s m args below meth c cells slots Q nL dC dI ad cA A M pc lv' st) : jj p l e R s m args below meth c cells slots Q nL dC dI ad cA A M pc lv st :=
  fun H locs ls hP hS hl => k H locs ls hP hS (lv_sub hl ks h)
theorem j_M {M' : mm_M} (h : M = M') (k : jj p l e R s m args below meth c cells slots Q nL dC dI ad cA A M' pc lv st) : jj p l e R s m args below meth c cells slots Q nL dC dI ad cA A M pc lv st := h ▸ k
theorem j_st {st' : List Value} (h : st = st') (k : jj p l e R s m args below meth c cells slots Q nL dC dI ad cA A M pc lv st') : jj p l e R s m args below meth c cells slots Q nL dC dI ad cA A M pc lv st := h ▸ k
theorem j_i {x : Int32} (y : Int32) (h : x = y) (k : jj p l e R s m args below meth c cells slots Q nL dC dI ad cA A M pc lv (.int y :: st)) : jj p l e R s m args below meth c cells slots Q nL dC dI ad cA A M pc lv (.int x :: st) := h ▸ k
theorem j_j {x : Int64} (y : Int64) (h : x = y) (k : jj p l e R s m args below meth c cells slots Q nL dC dI ad cA A M pc lv (.long y :: st)) : jj p l e R s m args below meth c cells slots Q nL dC dI ad cA A M pc lv (.long x :: st) := h ▸ k

theorem j_iconst (C : jj_C p R s m args c cells slots cc nL own Ts dC dI ad cA A) {n : Int} (v : Int32) (d : decode cc pc = .ok (.iconst n, 1)) (hv : Int32.ofInt n = v) (k : jj p l e R s m args below meth c cells slots Q nL dC dI ad cA A M (pc + 1) lv (.int v :: st)) : jj p l e R s m args below meth c cells slots Q nL dC dI ad cA A M pc lv st :=
  fun H locs ls hP hS hl => lv_iconst C.1.1 C.1.2.1 d hv (k H locs ls hP hS hl)
theorem j_bipush (C : jj_C p R s m args c cells slots cc nL own Ts dC dI ad cA A) {n : Int} (v : Int32) (d : decode cc pc = .ok (.bipush n, 2)) (hv : (Int8.ofInt n).toInt32 = v) (k : jj p l e R s m args below meth c cells slots Q nL dC dI ad cA A M (pc + 2) lv (.int v :: st)) : jj p l e R s m args below meth c cells slots Q nL dC dI ad cA A M pc lv st :=
  fun H locs ls hP hS hl => lv_bipush C.1.1 C.1.2.1 d hv (k H locs ls hP hS hl)
theorem j_sipush (C : jj_C p R s m args c cells slots cc nL own Ts dC dI ad cA A) {n : Int} (v : Int32) (d : decode cc pc = .ok (.sipush n, 3)) (hv : (Int16.ofInt n).toInt32 = v) (k : jj p l e R s m args below meth c cells slots Q nL dC dI ad cA A M (pc + 3) lv (.int v :: st)) : jj p l e R s m args below meth c cells slots Q nL dC dI ad cA A M pc lv st :=
  fun H locs ls hP hS hl => lv_sipush C.1.1 C.1.2.1 d hv (k H locs ls hP hS hl)
theorem j_lconst (C : jj_C p R s m args c cells slots cc nL own Ts dC dI ad cA A) {n : Fin 2} (v : Int64) (d : decode cc pc = .ok (.lconst n, 1)) (hv : Int64.ofNat (n : Nat) = v) (k : jj p l e R s m args below meth c cells slots Q nL dC dI ad cA A M (pc + 1) lv (.long v :: st)) : jj p l e R s m args below meth c cells slots Q nL dC dI ad cA A M pc lv st :=
  fun H locs ls hP hS hl => lv_lconst C.1.1 C.1.2.1 d hv (k H locs ls hP hS hl)
theorem j_ldc (C : jj_C p R s m args c cells slots cc nL own Ts dC dI ad cA A) {n : Nat} (v : Int32) (d : decode cc pc = .ok (.ldc n, 2)) (hv : Cond.constant own n v ∈ Ts) (k : jj p l e R s m args below meth c cells slots Q nL dC dI ad cA A M (pc + 2) lv (.int v :: st)) : jj p l e R s m args below meth c cells slots Q nL dC dI ad cA A M pc lv st :=
  fun H locs ls hP hS hl => lv_ldc C.1.1 C.1.2.1 C.1.2.2.2.1 (C.1.2.2.2.2 _ hv) d (k H locs ls hP hS hl)
theorem j_ldcw (C : jj_C p R s m args c cells slots cc nL own Ts dC dI ad cA A) {n : Nat} (v : Int32) (d : decode cc pc = .ok (.ldc_w n, 3)) (hv : Cond.constant own n v ∈ Ts) (k : jj p l e R s m args below meth c cells slots Q nL dC dI ad cA A M (pc + 3) lv (.int v :: st)) : jj p l e R s m args below meth c cells slots Q nL dC dI ad cA A M pc lv st :=
  fun H locs ls hP hS hl => lv_ldcw C.1.1 C.1.2.1 C.1.2.2.2.1 (C.1.2.2.2.2 _ hv) d (k H locs ls hP hS hl)
theorem j_ldc2 (C : jj_C p R s m args c cells slots cc nL own Ts dC dI ad cA A) {n : Nat} (v : Int64) (d : decode cc pc = .ok (.ldc2_w n, 3)) (hv : Cond.constantLong own n v ∈ Ts) (k : jj p l e R s m args below meth c cells slots Q nL dC dI ad cA A M (pc + 3) lv (.long v :: st)) : jj p l e R s m args below meth c cells slots Q nL dC dI ad cA A M pc lv st :=
  fun H locs ls hP hS hl => lv_ldc2 C.1.1 C.1.2.1 C.1.2.2.2.1 (C.1.2.2.2.2 _ hv) d (k H locs ls hP hS hl)
theorem j_iload_n (C : jj_C p R s m args c cells slots cc nL own Ts dC dI ad cA A) {k0 : Fin 4} {x : Int32} (q i : Nat) (d : decode cc pc = .ok (.iload_n k0, 1)) (hi : (k0 : Nat) = i) (hq : lv[q]? = some (i, .int x)) (k : jj p l e R s m args below meth c cells slots Q nL dC dI ad cA A M (pc + 1) lv (.int x :: st)) : jj p l e R s m args below meth c cells slots Q nL dC dI ad cA A M pc lv st :=
  fun H locs ls hP hS hl => lv_iload_n C.1.1 C.1.2.1 d hi (lv_at hl q hq) (k H locs ls hP hS hl)
theorem j_iload (C : jj_C p R s m args c cells slots cc nL own Ts dC dI ad cA A) {i : Nat} {x : Int32} (q : Nat) (d : decode cc pc = .ok (.iload i, 2)) (hq : lv[q]? = some (i, .int x)) (k : jj p l e R s m args below meth c cells slots Q nL dC dI ad cA A M (pc + 2) lv (.int x :: st)) : jj p l e R s m args below meth c cells slots Q nL dC dI ad cA A M pc lv st :=
  fun H locs ls hP hS hl => lv_iload C.1.1 C.1.2.1 d (lv_at hl q hq) (k H locs ls hP hS hl)
theorem j_lload_n (C : jj_C p R s m args c cells slots cc nL own Ts dC dI ad cA A) {k0 : Fin 4} {x : Int64} (q i : Nat) (d : decode cc pc = .ok (.lload_n k0, 1)) (hi : (k0 : Nat) = i) (hq : lv[q]? = some (i, .long x)) (k : jj p l e R s m args below meth c cells slots Q nL dC dI ad cA A M (pc + 1) lv (.long x :: st)) : jj p l e R s m args below meth c cells slots Q nL dC dI ad cA A M pc lv st :=
  fun H locs ls hP hS hl => lv_lload_n C.1.1 C.1.2.1 d hi (lv_at hl q hq) (k H locs ls hP hS hl)
theorem j_lload (C : jj_C p R s m args c cells slots cc nL own Ts dC dI ad cA A) {i : Nat} {x : Int64} (q : Nat) (d : decode cc pc = .ok (.lload i, 2)) (hq : lv[q]? = some (i, .long x)) (k : jj p l e R s m args below meth c cells slots Q nL dC dI ad cA A M (pc + 2) lv (.long x :: st)) : jj p l e R s m args below meth c cells slots Q nL dC dI ad cA A M pc lv st :=
  fun H locs ls hP hS hl => lv_lload C.1.1 C.1.2.1 d (lv_at hl q hq) (k H locs ls hP hS hl)
theorem j_aload_n (C : jj_C p R s m args c cells slots cc nL own Ts dC dI ad cA A) {k0 : Fin 4} {x : Nat} (q i : Nat) (d : decode cc pc = .ok (.aload_n k0, 1)) (hi : (k0 : Nat) = i) (hq : lv[q]? = some (i, .ref x)) (k : jj p l e R s m args below meth c cells slots Q nL dC dI ad cA A M (pc + 1) lv (.ref x :: st)) : jj p l e R s m args below meth c cells slots Q nL dC dI ad cA A M pc lv st :=
  fun H locs ls hP hS hl => lv_aload_n C.1.1 C.1.2.1 d hi (lv_at hl q hq) (k H locs ls hP hS hl)
theorem j_aload (C : jj_C p R s m args c cells slots cc nL own Ts dC dI ad cA A) {i : Nat} {x : Nat} (q : Nat) (d : decode cc pc = .ok (.aload i, 2)) (hq : lv[q]? = some (i, .ref x)) (k : jj p l e R s m args below meth c cells slots Q nL dC dI ad cA A M (pc + 2) lv (.ref x :: st)) : jj p l e R s m args below meth c cells slots Q nL dC dI ad cA A M pc lv st :=
  fun H locs ls hP hS hl => lv_aload C.1.1 C.1.2.1 d (lv_at hl q hq) (k H locs ls hP hS hl)
theorem j_istore_n (C : jj_C p R s m args c cells slots cc nL own Ts dC dI ad cA A) {k0 : Fin 4} (i : Nat) {x : Int32} (lv' : List (Nat × Value)) (d : decode cc pc = .ok (.istore_n k0, 1)) (hi : (k0 : Nat) = i) (hn : i < nL) (h : (i, Value.int x) :: lv.filter (fun q => !(q.1 == i) && !(q.1 + 1 == i && q.2.category == 2)) = lv') (k : jj p l e R s m args below meth c cells slots Q nL dC dI ad cA A M (pc + 1) lv' st) : jj p l e R s m args below meth c cells slots Q nL dC dI ad cA A M pc lv (Value.int x :: st) :=
  fun H locs ls hP hS hl => lv_istore_n C.1.1 C.1.2.1 d hi hl hn h (fun ls2 hl2 => k H locs ls2 hP hS hl2)
theorem j_istore (C : jj_C p R s m args c cells slots cc nL own Ts dC dI ad cA A) (i : Nat) {x : Int32} (lv' : List (Nat × Value)) (d : decode cc pc = .ok (.istore i, 2)) (hn : i < nL) (h : (i, Value.int x) :: lv.filter (fun q => !(q.1 == i) && !(q.1 + 1 == i && q.2.category == 2)) = lv') (k : jj p l e R s m args below meth c cells slots Q nL dC dI ad cA A M (pc + 2) lv' st) : jj p l e R s m args below meth c cells slots Q nL dC dI ad cA A M pc lv (Value.int x :: st) :=
  fun H locs ls hP hS hl => lv_istore C.1.1 C.1.2.1 d hl hn h (fun ls2 hl2 => k H locs ls2 hP hS hl2)
theorem j_astore_n (C : jj_C p R s m args c cells slots cc nL own Ts dC dI ad cA A) {k0 : Fin 4} (i : Nat) {x : Nat} (lv' : List (Nat × Value)) (d : decode cc pc = .ok (.astore_n k0, 1)) (hi : (k0 : Nat) = i) (hn : i < nL) (h : (i, Value.ref x) :: lv.filter (fun q => !(q.1 == i) && !(q.1 + 1 == i && q.2.category == 2)) = lv') (k : jj p l e R s m args below meth c cells slots Q nL dC dI ad cA A M (pc + 1) lv' st) : jj p l e R s m args below meth c cells slots Q nL dC dI ad cA A M pc lv (Value.ref x :: st) :=
  fun H locs ls hP hS hl => lv_astore_n C.1.1 C.1.2.1 d hi hl hn h (fun ls2 hl2 => k H locs ls2 hP hS hl2)
theorem j_astore (C : jj_C p R s m args c cells slots cc nL own Ts dC dI ad cA A) (i : Nat) {x : Nat} (lv' : List (Nat × Value)) (d : decode cc pc = .ok (.astore i, 2)) (hn : i < nL) (h : (i, Value.ref x) :: lv.filter (fun q => !(q.1 == i) && !(q.1 + 1 == i && q.2.category == 2)) = lv') (k : jj p l e R s m args below meth c cells slots Q nL dC dI ad cA A M (pc + 2) lv' st) : jj p l e R s m args below meth c cells slots Q nL dC dI ad cA A M pc lv (Value.ref x :: st) :=
  fun H locs ls hP hS hl => lv_astore C.1.1 C.1.2.1 d hl hn h (fun ls2 hl2 => k H locs ls2 hP hS hl2)
theorem j_lstore_n (C : jj_C p R s m args c cells slots cc nL own Ts dC dI ad cA A) {k0 : Fin 4} (i : Nat) {x : Int64} (lv' : List (Nat × Value)) (d : decode cc pc = .ok (.lstore_n k0, 1)) (hi : (k0 : Nat) = i) (hn : i + 1 < nL) (h : (i, Value.long x) :: lv.filter (fun q => !(q.1 == i) && (!(q.1 == i + 1) && !(q.1 + 1 == i && q.2.category == 2))) = lv') (k : jj p l e R s m args below meth c cells slots Q nL dC dI ad cA A M (pc + 1) lv' st) : jj p l e R s m args below meth c cells slots Q nL dC dI ad cA A M pc lv (Value.long x :: st) :=
  fun H locs ls hP hS hl => lv_lstore_n C.1.1 C.1.2.1 d hi hl hn h (fun ls2 hl2 => k H locs ls2 hP hS hl2)
theorem j_lstore (C : jj_C p R s m args c cells slots cc nL own Ts dC dI ad cA A) (i : Nat) {x : Int64} (lv' : List (Nat × Value)) (d : decode cc pc = .ok (.lstore i, 2)) (hn : i + 1 < nL) (h : (i, Value.long x) :: lv.filter (fun q => !(q.1 == i) && (!(q.1 == i + 1) && !(q.1 + 1 == i && q.2.category == 2))) = lv') (k : jj p l e R s m args below meth c cells slots Q nL dC dI ad cA A M (pc + 2) lv' st) : jj p l e R s m args below meth c cells slots Q nL dC dI ad cA A M pc lv (Value.long x :: st) :=
  fun H locs ls hP hS hl => lv_lstore C.1.1 C.1.2.1 d hl hn h (fun ls2 hl2 => k H locs ls2 hP hS hl2)
theorem j_iinc (C : jj_C p R s m args c cells slots cc nL own Ts dC dI ad cA A) {i : Nat} {n : Int} {x : Int32} (q : Nat) (v : Int32) (lv' : List (Nat × Value)) (d : decode cc pc = .ok (.iinc i n, 3)) (hq : lv[q]? = some (i, .int x)) (hv : x + Int32.ofInt n = v) (hn : i < nL) (h : (i, Value.int v) :: lv.filter (fun q => !(q.1 == i) && !(q.1 + 1 == i && q.2.category == 2)) = lv') (k : jj p l e R s m args below meth c cells slots Q nL dC dI ad cA A M (pc + 3) lv' st) : jj p l e R s m args below meth c cells slots Q nL dC dI ad cA A M pc lv st :=
  fun H locs ls hP hS hl => lv_iinc C.1.1 C.1.2.1 d hl hq hv hn h (fun ls2 hl2 => k H locs ls2 hP hS hl2)
theorem j_iadd (C : jj_C p R s m args c cells slots cc nL own Ts dC dI ad cA A) {x y : Int32} (d : decode cc pc = .ok (.iadd, 1)) (k : jj p l e R s m args below meth c cells slots Q nL dC dI ad cA A M (pc + 1) lv (.int (x + y) :: st)) : jj p l e R s m args below meth c cells slots Q nL dC dI ad cA A M pc lv (.int y :: .int x :: st) :=
  fun H locs ls hP hS hl => lv_iadd C.1.1 C.1.2.1 d (k H locs ls hP hS hl)
theorem j_isub (C : jj_C p R s m args c cells slots cc nL own Ts dC dI ad cA A) {x y : Int32} (d : decode cc pc = .ok (.isub, 1)) (k : jj p l e R s m args below meth c cells slots Q nL dC dI ad cA A M (pc + 1) lv (.int (x - y) :: st)) : jj p l e R s m args below meth c cells slots Q nL dC dI ad cA A M pc lv (.int y :: .int x :: st) :=
  fun H locs ls hP hS hl => lv_isub C.1.1 C.1.2.1 d (k H locs ls hP hS hl)
theorem j_imul (C : jj_C p R s m args c cells slots cc nL own Ts dC dI ad cA A) {x y : Int32} (d : decode cc pc = .ok (.imul, 1)) (k : jj p l e R s m args below meth c cells slots Q nL dC dI ad cA A M (pc + 1) lv (.int (x * y) :: st)) : jj p l e R s m args below meth c cells slots Q nL dC dI ad cA A M pc lv (.int y :: .int x :: st) :=
  fun H locs ls hP hS hl => lv_imul C.1.1 C.1.2.1 d (k H locs ls hP hS hl)
theorem j_iand (C : jj_C p R s m args c cells slots cc nL own Ts dC dI ad cA A) {x y : Int32} (d : decode cc pc = .ok (.iand, 1)) (k : jj p l e R s m args below meth c cells slots Q nL dC dI ad cA A M (pc + 1) lv (.int (x &&& y) :: st)) : jj p l e R s m args below meth c cells slots Q nL dC dI ad cA A M pc lv (.int y :: .int x :: st) :=
  fun H locs ls hP hS hl => lv_iand C.1.1 C.1.2.1 d (k H locs ls hP hS hl)
theorem j_ior (C : jj_C p R s m args c cells slots cc nL own Ts dC dI ad cA A) {x y : Int32} (d : decode cc pc = .ok (.ior, 1)) (k : jj p l e R s m args below meth c cells slots Q nL dC dI ad cA A M (pc + 1) lv (.int (x ||| y) :: st)) : jj p l e R s m args below meth c cells slots Q nL dC dI ad cA A M pc lv (.int y :: .int x :: st) :=
  fun H locs ls hP hS hl => lv_ior C.1.1 C.1.2.1 d (k H locs ls hP hS hl)
theorem j_ixor (C : jj_C p R s m args c cells slots cc nL own Ts dC dI ad cA A) {x y : Int32} (d : decode cc pc = .ok (.ixor, 1)) (k : jj p l e R s m args below meth c cells slots Q nL dC dI ad cA A M (pc + 1) lv (.int (x ^^^ y) :: st)) : jj p l e R s m args below meth c cells slots Q nL dC dI ad cA A M pc lv (.int y :: .int x :: st) :=
  fun H locs ls hP hS hl => lv_ixor C.1.1 C.1.2.1 d (k H locs ls hP hS hl)
theorem j_ishl (C : jj_C p R s m args c cells slots cc nL own Ts dC dI ad cA A) {x y : Int32} (d : decode cc pc = .ok (.ishl, 1)) (k : jj p l e R s m args below meth c cells slots Q nL dC dI ad cA A M (pc + 1) lv (.int (x <<< (y &&& 31)) :: st)) : jj p l e R s m args below meth c cells slots Q nL dC dI ad cA A M pc lv (.int y :: .int x :: st) :=
  fun H locs ls hP hS hl => lv_ishl C.1.1 C.1.2.1 d (k H locs ls hP hS hl)
theorem j_ishr (C : jj_C p R s m args c cells slots cc nL own Ts dC dI ad cA A) {x y : Int32} (d : decode cc pc = .ok (.ishr, 1)) (k : jj p l e R s m args below meth c cells slots Q nL dC dI ad cA A M (pc + 1) lv (.int (x >>> (y &&& 31)) :: st)) : jj p l e R s m args below meth c cells slots Q nL dC dI ad cA A M pc lv (.int y :: .int x :: st) :=
  fun H locs ls hP hS hl => lv_ishr C.1.1 C.1.2.1 d (k H locs ls hP hS hl)
theorem j_idiv (C : jj_C p R s m args c cells slots cc nL own Ts dC dI ad cA A) {x y : Int32} (d : decode cc pc = .ok (.idiv, 1)) (hne : ¬ y = 0) (k : jj p l e R s m args below meth c cells slots Q nL dC dI ad cA A M (pc + 1) lv (.int (x / y) :: st)) : jj p l e R s m args below meth c cells slots Q nL dC dI ad cA A M pc lv (.int y :: .int x :: st) :=
  fun H locs ls hP hS hl => lv_idiv C.1.1 C.1.2.1 d hne (k H locs ls hP hS hl)
theorem j_irem (C : jj_C p R s m args c cells slots cc nL own Ts dC dI ad cA A) {x y : Int32} (d : decode cc pc = .ok (.irem, 1)) (hne : ¬ y = 0) (k : jj p l e R s m args below meth c cells slots Q nL dC dI ad cA A M (pc + 1) lv (.int (x - x / y * y) :: st)) : jj p l e R s m args below meth c cells slots Q nL dC dI ad cA A M pc lv (.int y :: .int x :: st) :=
  fun H locs ls hP hS hl => lv_irem C.1.1 C.1.2.1 d hne (k H locs ls hP hS hl)
theorem j_ineg (C : jj_C p R s m args c cells slots cc nL own Ts dC dI ad cA A) {x : Int32} (d : decode cc pc = .ok (.ineg, 1)) (k : jj p l e R s m args below meth c cells slots Q nL dC dI ad cA A M (pc + 1) lv (.int (-x) :: st)) : jj p l e R s m args below meth c cells slots Q nL dC dI ad cA A M pc lv (.int x :: st) :=
  fun H locs ls hP hS hl => lv_ineg C.1.1 C.1.2.1 d (k H locs ls hP hS hl)
theorem j_iushr (C : jj_C p R s m args c cells slots cc nL own Ts dC dI ad cA A) {x y : Int32} (d : decode cc pc = .ok (.iushr, 1)) (k : jj p l e R s m args below meth c cells slots Q nL dC dI ad cA A M (pc + 1) lv (.int (x.toUInt32 >>> (y.toUInt32 &&& Int32.toUInt32 31)).toInt32 :: st)) : jj p l e R s m args below meth c cells slots Q nL dC dI ad cA A M pc lv (.int y :: .int x :: st) :=
  fun H locs ls hP hS hl => lv_iushr C.1.1 C.1.2.1 d rfl (k H locs ls hP hS hl)
theorem j_ladd (C : jj_C p R s m args c cells slots cc nL own Ts dC dI ad cA A) {x y : Int64} (d : decode cc pc = .ok (.ladd, 1)) (k : jj p l e R s m args below meth c cells slots Q nL dC dI ad cA A M (pc + 1) lv (.long (x + y) :: st)) : jj p l e R s m args below meth c cells slots Q nL dC dI ad cA A M pc lv (.long y :: .long x :: st) :=
  fun H locs ls hP hS hl => lv_ladd C.1.1 C.1.2.1 d (k H locs ls hP hS hl)
theorem j_lsub (C : jj_C p R s m args c cells slots cc nL own Ts dC dI ad cA A) {x y : Int64} (d : decode cc pc = .ok (.lsub, 1)) (k : jj p l e R s m args below meth c cells slots Q nL dC dI ad cA A M (pc + 1) lv (.long (x - y) :: st)) : jj p l e R s m args below meth c cells slots Q nL dC dI ad cA A M pc lv (.long y :: .long x :: st) :=
  fun H locs ls hP hS hl => lv_lsub C.1.1 C.1.2.1 d (k H locs ls hP hS hl)
theorem j_lmul (C : jj_C p R s m args c cells slots cc nL own Ts dC dI ad cA A) {x y : Int64} (d : decode cc pc = .ok (.lmul, 1)) (k : jj p l e R s m args below meth c cells slots Q nL dC dI ad cA A M (pc + 1) lv (.long (x * y) :: st)) : jj p l e R s m args below meth c cells slots Q nL dC dI ad cA A M pc lv (.long y :: .long x :: st) :=
  fun H locs ls hP hS hl => lv_lmul C.1.1 C.1.2.1 d (k H locs ls hP hS hl)
theorem j_land (C : jj_C p R s m args c cells slots cc nL own Ts dC dI ad cA A) {x y : Int64} (d : decode cc pc = .ok (.land, 1)) (k : jj p l e R s m args below meth c cells slots Q nL dC dI ad cA A M (pc + 1) lv (.long (x &&& y) :: st)) : jj p l e R s m args below meth c cells slots Q nL dC dI ad cA A M pc lv (.long y :: .long x :: st) :=
  fun H locs ls hP hS hl => lv_land C.1.1 C.1.2.1 d (k H locs ls hP hS hl)
theorem j_lor (C : jj_C p R s m args c cells slots cc nL own Ts dC dI ad cA A) {x y : Int64} (d : decode cc pc = .ok (.lor, 1)) (k : jj p l e R s m args below meth c cells slots Q nL dC dI ad cA A M (pc + 1) lv (.long (x ||| y) :: st)) : jj p l e R s m args below meth c cells slots Q nL dC dI ad cA A M pc lv (.long y :: .long x :: st) :=
  fun H locs ls hP hS hl => lv_lor C.1.1 C.1.2.1 d (k H locs ls hP hS hl)
theorem j_ldiv (C : jj_C p R s m args c cells slots cc nL own Ts dC dI ad cA A) {x y : Int64} (d : decode cc pc = .ok (.ldiv, 1)) (hne : ¬ y = 0) (k : jj p l e R s m args below meth c cells slots Q nL dC dI ad cA A M (pc + 1) lv (.long (x / y) :: st)) : jj p l e R s m args below meth c cells slots Q nL dC dI ad cA A M pc lv (.long y :: .long x :: st) :=
  fun H locs ls hP hS hl => lv_ldiv C.1.1 C.1.2.1 d hne (k H locs ls hP hS hl)
theorem j_lrem (C : jj_C p R s m args c cells slots cc nL own Ts dC dI ad cA A) {x y : Int64} (d : decode cc pc = .ok (.lrem, 1)) (hne : ¬ y = 0) (k : jj p l e R s m args below meth c cells slots Q nL dC dI ad cA A M (pc + 1) lv (.long (x - x / y * y) :: st)) : jj p l e R s m args below meth c cells slots Q nL dC dI ad cA A M pc lv (.long y :: .long x :: st) :=
  fun H locs ls hP hS hl => lv_lrem C.1.1 C.1.2.1 d hne (k H locs ls hP hS hl)
theorem j_lshl (C : jj_C p R s m args c cells slots cc nL own Ts dC dI ad cA A) {x : Int64} {y : Int32} (d : decode cc pc = .ok (.lshl, 1)) (k : jj p l e R s m args below meth c cells slots Q nL dC dI ad cA A M (pc + 1) lv (.long (x <<< (y.toInt64 &&& 63)) :: st)) : jj p l e R s m args below meth c cells slots Q nL dC dI ad cA A M pc lv (.int y :: .long x :: st) :=
  fun H locs ls hP hS hl => lv_lshl C.1.1 C.1.2.1 d rfl (k H locs ls hP hS hl)
theorem j_lshr (C : jj_C p R s m args c cells slots cc nL own Ts dC dI ad cA A) {x : Int64} {y : Int32} (d : decode cc pc = .ok (.lshr, 1)) (k : jj p l e R s m args below meth c cells slots Q nL dC dI ad cA A M (pc + 1) lv (.long (x >>> (y.toInt64 &&& 63)) :: st)) : jj p l e R s m args below meth c cells slots Q nL dC dI ad cA A M pc lv (.int y :: .long x :: st) :=
  fun H locs ls hP hS hl => lv_lshr C.1.1 C.1.2.1 d rfl (k H locs ls hP hS hl)
theorem j_i2l (C : jj_C p R s m args c cells slots cc nL own Ts dC dI ad cA A) {x : Int32} (d : decode cc pc = .ok (.i2l, 1)) (k : jj p l e R s m args below meth c cells slots Q nL dC dI ad cA A M (pc + 1) lv (.long x.toInt64 :: st)) : jj p l e R s m args below meth c cells slots Q nL dC dI ad cA A M pc lv (.int x :: st) :=
  fun H locs ls hP hS hl => lv_i2l C.1.1 C.1.2.1 d rfl (k H locs ls hP hS hl)
theorem j_l2i (C : jj_C p R s m args c cells slots cc nL own Ts dC dI ad cA A) {x : Int64} (d : decode cc pc = .ok (.l2i, 1)) (k : jj p l e R s m args below meth c cells slots Q nL dC dI ad cA A M (pc + 1) lv (.int x.toInt32 :: st)) : jj p l e R s m args below meth c cells slots Q nL dC dI ad cA A M pc lv (.long x :: st) :=
  fun H locs ls hP hS hl => lv_l2i C.1.1 C.1.2.1 d rfl (k H locs ls hP hS hl)
theorem j_i2b (C : jj_C p R s m args c cells slots cc nL own Ts dC dI ad cA A) {x : Int32} (d : decode cc pc = .ok (.i2b, 1)) (k : jj p l e R s m args below meth c cells slots Q nL dC dI ad cA A M (pc + 1) lv (.int x.toInt8.toInt32 :: st)) : jj p l e R s m args below meth c cells slots Q nL dC dI ad cA A M pc lv (.int x :: st) :=
  fun H locs ls hP hS hl => lv_i2b C.1.1 C.1.2.1 d rfl (k H locs ls hP hS hl)
theorem j_i2s (C : jj_C p R s m args c cells slots cc nL own Ts dC dI ad cA A) {x : Int32} (d : decode cc pc = .ok (.i2s, 1)) (k : jj p l e R s m args below meth c cells slots Q nL dC dI ad cA A M (pc + 1) lv (.int x.toInt16.toInt32 :: st)) : jj p l e R s m args below meth c cells slots Q nL dC dI ad cA A M pc lv (.int x :: st) :=
  fun H locs ls hP hS hl => lv_i2s C.1.1 C.1.2.1 d rfl (k H locs ls hP hS hl)
theorem j_i2c (C : jj_C p R s m args c cells slots cc nL own Ts dC dI ad cA A) {x : Int32} (d : decode cc pc = .ok (.i2c, 1)) (k : jj p l e R s m args below meth c cells slots Q nL dC dI ad cA A M (pc + 1) lv (.int (x.toUInt32 % 65536).toInt32 :: st)) : jj p l e R s m args below meth c cells slots Q nL dC dI ad cA A M pc lv (.int x :: st) :=
  fun H locs ls hP hS hl => lv_i2c C.1.1 C.1.2.1 d rfl (k H locs ls hP hS hl)
theorem j_lcmp (C : jj_C p R s m args c cells slots cc nL own Ts dC dI ad cA A) {x y : Int64} (d : decode cc pc = .ok (.lcmp, 1)) (k : jj p l e R s m args below meth c cells slots Q nL dC dI ad cA A M (pc + 1) lv (.int (lg_cmp x y) :: st)) : jj p l e R s m args below meth c cells slots Q nL dC dI ad cA A M pc lv (.long y :: .long x :: st) :=
  fun H locs ls hP hS hl => W.lcmp C.1.1 C.1.2.1 d (k H locs ls hP hS hl)
theorem j_dup (C : jj_C p R s m args c cells slots cc nL own Ts dC dI ad cA A) {v : Value} (d : decode cc pc = .ok (.dup, 1)) (hv : v.category = 1) (k : jj p l e R s m args below meth c cells slots Q nL dC dI ad cA A M (pc + 1) lv (v :: v :: st)) : jj p l e R s m args below meth c cells slots Q nL dC dI ad cA A M pc lv (v :: st) :=
  fun H locs ls hP hS hl => lv_dup C.1.1 C.1.2.1 d hv (k H locs ls hP hS hl)
theorem j_pop (C : jj_C p R s m args c cells slots cc nL own Ts dC dI ad cA A) {v : Value} (d : decode cc pc = .ok (.pop, 1)) (hv : v.category = 1) (k : jj p l e R s m args below meth c cells slots Q nL dC dI ad cA A M (pc + 1) lv st) : jj p l e R s m args below meth c cells slots Q nL dC dI ad cA A M pc lv (v :: st) :=
  fun H locs ls hP hS hl => lv_pop C.1.1 C.1.2.1 d hv (k H locs ls hP hS hl)
theorem j_pop2 (C : jj_C p R s m args c cells slots cc nL own Ts dC dI ad cA A) {v : Value} (d : decode cc pc = .ok (.pop2, 1)) (hv : v.category = 2) (k : jj p l e R s m args below meth c cells slots Q nL dC dI ad cA A M (pc + 1) lv st) : jj p l e R s m args below meth c cells slots Q nL dC dI ad cA A M pc lv (v :: st) :=
  fun H locs ls hP hS hl => lv_pop2_2 C.1.1 C.1.2.1 d hv (k H locs ls hP hS hl)
theorem j_dup_x1 (C : jj_C p R s m args c cells slots cc nL own Ts dC dI ad cA A) {v w : Value} (d : decode cc pc = .ok (.dup_x1, 1)) (hv : v.category = 1) (hw : w.category = 1) (k : jj p l e R s m args below meth c cells slots Q nL dC dI ad cA A M (pc + 1) lv (v :: w :: v :: st)) : jj p l e R s m args below meth c cells slots Q nL dC dI ad cA A M pc lv (v :: w :: st) :=
  fun H locs ls hP hS hl => lv_dup_x1 C.1.1 C.1.2.1 d hv hw (k H locs ls hP hS hl)
theorem j_dup_x2 (C : jj_C p R s m args c cells slots cc nL own Ts dC dI ad cA A) {v w u : Value} (d : decode cc pc = .ok (.dup_x2, 1)) (hv : v.category = 1) (hw : w.category = 1) (hu : u.category = 1) (k : jj p l e R s m args below meth c cells slots Q nL dC dI ad cA A M (pc + 1) lv (v :: w :: u :: v :: st)) : jj p l e R s m args below meth c cells slots Q nL dC dI ad cA A M pc lv (v :: w :: u :: st) :=
  fun H locs ls hP hS hl => lv_dup_x2 C.1.1 C.1.2.1 d hv hw hu (k H locs ls hP hS hl)
theorem j_dup2 (C : jj_C p R s m args c cells slots cc nL own Ts dC dI ad cA A) {v w : Value} (d : decode cc pc = .ok (.dup2, 1)) (hv : v.category = 1) (hw : w.category = 1) (k : jj p l e R s m args below meth c cells slots Q nL dC dI ad cA A M (pc + 1) lv (v :: w :: v :: w :: st)) : jj p l e R s m args below meth c cells slots Q nL dC dI ad cA A M pc lv (v :: w :: st) :=
  fun H locs ls hP hS hl => lv_dup2_11 C.1.1 C.1.2.1 d hv hw (k H locs ls hP hS hl)
theorem j_dup2l (C : jj_C p R s m args c cells slots cc nL own Ts dC dI ad cA A) {v : Value} (d : decode cc pc = .ok (.dup2, 1)) (hv : v.category = 2) (k : jj p l e R s m args below meth c cells slots Q nL dC dI ad cA A M (pc + 1) lv (v :: v :: st)) : jj p l e R s m args below meth c cells slots Q nL dC dI ad cA A M pc lv (v :: st) :=
  fun H locs ls hP hS hl => lv_dup2_2 C.1.1 C.1.2.1 d hv (k H locs ls hP hS hl)
theorem j_dup2_x1 (C : jj_C p R s m args c cells slots cc nL own Ts dC dI ad cA A) {v w : Value} (d : decode cc pc = .ok (.dup2_x1, 1)) (hv : v.category = 2) (hw : w.category = 1) (k : jj p l e R s m args below meth c cells slots Q nL dC dI ad cA A M (pc + 1) lv (v :: w :: v :: st)) : jj p l e R s m args below meth c cells slots Q nL dC dI ad cA A M pc lv (v :: w :: st) :=
  fun H locs ls hP hS hl => lv_dup2_x1_2 C.1.1 C.1.2.1 d hv hw (k H locs ls hP hS hl)
theorem j_dup2_x2 (C : jj_C p R s m args c cells slots cc nL own Ts dC dI ad cA A) {v w u : Value} (d : decode cc pc = .ok (.dup2_x2, 1)) (hv : v.category = 2) (hw : w.category = 1) (hu : u.category = 1) (k : jj p l e R s m args below meth c cells slots Q nL dC dI ad cA A M (pc + 1) lv (v :: w :: u :: v :: st)) : jj p l e R s m args below meth c cells slots Q nL dC dI ad cA A M pc lv (v :: w :: u :: st) :=
  fun H locs ls hP hS hl => lv_dup2_x2_2 C.1.1 C.1.2.1 d hv hw hu (k H locs ls hP hS hl)
theorem j_if_eq (C : jj_C p R s m args c cells slots cc nL own Ts dC dI ad cA A) {x : Int32} {off : Int} (tgt : Nat) (d : decode cc pc = .ok (.ifCond .eq off, 3)) (ht : (pc : Int) + off = (tgt : Int)) (kt : x = 0 → jj p l e R s m args below meth c cells slots Q nL dC dI ad cA A M tgt lv st) (kf : ¬ x = 0 → jj p l e R s m args below meth c cells slots Q nL dC dI ad cA A M (pc + 3) lv st) : jj p l e R s m args below meth c cells slots Q nL dC dI ad cA A M pc lv (.int x :: st) :=
  fun H locs ls hP hS hl => lv_if_eq C.1.1 C.1.2.1 d ht (fun q => kt q H locs ls hP hS hl) (fun q => kf q H locs ls hP hS hl)
theorem j_if_eq_t (C : jj_C p R s m args c cells slots cc nL own Ts dC dI ad cA A) {x : Int32} {off : Int} (tgt : Nat) (d : decode cc pc = .ok (.ifCond .eq off, 3)) (ht : (pc : Int) + off = (tgt : Int)) (h : x = 0) (k : jj p l e R s m args below meth c cells slots Q nL dC dI ad cA A M tgt lv st) : jj p l e R s m args below meth c cells slots Q nL dC dI ad cA A M pc lv (.int x :: st) := j_if_eq C tgt d ht (fun _ => k) (fun q => by first | exact absurd h q | exact absurd q h)
theorem j_if_eq_f (C : jj_C p R s m args c cells slots cc nL own Ts dC dI ad cA A) {x : Int32} {off : Int} (tgt : Nat) (d : decode cc pc = .ok (.ifCond .eq off, 3)) (ht : (pc : Int) + off = (tgt : Int)) (h : ¬ x = 0) (k : jj p l e R s m args below meth c cells slots Q nL dC dI ad cA A M (pc + 3) lv st) : jj p l e R s m args below meth c cells slots Q nL dC dI ad cA A M pc lv (.int x :: st) := j_if_eq C tgt d ht (fun q => by first | exact absurd h q | exact absurd q h) (fun _ => k)
theorem j_icmp_eq (C : jj_C p R s m args c cells slots cc nL own Ts dC dI ad cA A) {x y : Int32} {off : Int} (tgt : Nat) (d : decode cc pc = .ok (.if_icmp .eq off, 3)) (ht : (pc : Int) + off = (tgt : Int)) (kt : x = y → jj p l e R s m args below meth c cells slots Q nL dC dI ad cA A M tgt lv st) (kf : ¬ x = y → jj p l e R s m args below meth c cells slots Q nL dC dI ad cA A M (pc + 3) lv st) : jj p l e R s m args below meth c cells slots Q nL dC dI ad cA A M pc lv (.int y :: .int x :: st) :=
  fun H locs ls hP hS hl => lv_icmp_eq C.1.1 C.1.2.1 d ht (fun q => kt q H locs ls hP hS hl) (fun q => kf q H locs ls hP hS hl)
theorem j_icmp_eq_t (C : jj_C p R s m args c cells slots cc nL own Ts dC dI ad cA A) {x y : Int32} {off : Int} (tgt : Nat) (d : decode cc pc = .ok (.if_icmp .eq off, 3)) (ht : (pc : Int) + off = (tgt : Int)) (h : x = y) (k : jj p l e R s m args below meth c cells slots Q nL dC dI ad cA A M tgt lv st) : jj p l e R s m args below meth c cells slots Q nL dC dI ad cA A M pc lv (.int y :: .int x :: st) := j_icmp_eq C tgt d ht (fun _ => k) (fun q => by first | exact absurd h q | exact absurd q h)
theorem j_icmp_eq_f (C : jj_C p R s m args c cells slots cc nL own Ts dC dI ad cA A) {x y : Int32} {off : Int} (tgt : Nat) (d : decode cc pc = .ok (.if_icmp .eq off, 3)) (ht : (pc : Int) + off = (tgt : Int)) (h : ¬ x = y) (k : jj p l e R s m args below meth c cells slots Q nL dC dI ad cA A M (pc + 3) lv st) : jj p l e R s m args below meth c cells slots Q nL dC dI ad cA A M pc lv (.int y :: .int x :: st) := j_icmp_eq C tgt d ht (fun q => by first | exact absurd h q | exact absurd q h) (fun _ => k)
theorem j_if_ne (C : jj_C p R s m args c cells slots cc nL own Ts dC dI ad cA A) {x : Int32} {off : Int} (tgt : Nat) (d : decode cc pc = .ok (.ifCond .ne off, 3)) (ht : (pc : Int) + off = (tgt : Int)) (kt : ¬ x = 0 → jj p l e R s m args below meth c cells slots Q nL dC dI ad cA A M tgt lv st) (kf : x = 0 → jj p l e R s m args below meth c cells slots Q nL dC dI ad cA A M (pc + 3) lv st) : jj p l e R s m args below meth c cells slots Q nL dC dI ad cA A M pc lv (.int x :: st) :=
  fun H locs ls hP hS hl => lv_if_ne C.1.1 C.1.2.1 d ht (fun q => kt q H locs ls hP hS hl) (fun q => kf q H locs ls hP hS hl)
theorem j_if_ne_t (C : jj_C p R s m args c cells slots cc nL own Ts dC dI ad cA A) {x : Int32} {off : Int} (tgt : Nat) (d : decode cc pc = .ok (.ifCond .ne off, 3)) (ht : (pc : Int) + off = (tgt : Int)) (h : ¬ x = 0) (k : jj p l e R s m args below meth c cells slots Q nL dC dI ad cA A M tgt lv st) : jj p l e R s m args below meth c cells slots Q nL dC dI ad cA A M pc lv (.int x :: st) := j_if_ne C tgt d ht (fun _ => k) (fun q => by first | exact absurd h q | exact absurd q h)
theorem j_if_ne_f (C : jj_C p R s m args c cells slots cc nL own Ts dC dI ad cA A) {x : Int32} {off : Int} (tgt : Nat) (d : decode cc pc = .ok (.ifCond .ne off, 3)) (ht : (pc : Int) + off = (tgt : Int)) (h : x = 0) (k : jj p l e R s m args below meth c cells slots Q nL dC dI ad cA A M (pc + 3) lv st) : jj p l e R s m args below meth c cells slots Q nL dC dI ad cA A M pc lv (.int x :: st) := j_if_ne C tgt d ht (fun q => by first | exact absurd h q | exact absurd q h) (fun _ => k)
theorem j_icmp_ne (C : jj_C p R s m args c cells slots cc nL own Ts dC dI ad cA A) {x y : Int32} {off : Int} (tgt : Nat) (d : decode cc pc = .ok (.if_icmp .ne off, 3)) (ht : (pc : Int) + off = (tgt : Int)) (kt : ¬ x = y → jj p l e R s m args below meth c cells slots Q nL dC dI ad cA A M tgt lv st) (kf : x = y → jj p l e R s m args below meth c cells slots Q nL dC dI ad cA A M (pc + 3) lv st) : jj p l e R s m args below meth c cells slots Q nL dC dI ad cA A M pc lv (.int y :: .int x :: st) :=
  fun H locs ls hP hS hl => lv_icmp_ne C.1.1 C.1.2.1 d ht (fun q => kt q H locs ls hP hS hl) (fun q => kf q H locs ls hP hS hl)
theorem j_icmp_ne_t (C : jj_C p R s m args c cells slots cc nL own Ts dC dI ad cA A) {x y : Int32} {off : Int} (tgt : Nat) (d : decode cc pc = .ok (.if_icmp .ne off, 3)) (ht : (pc : Int) + off = (tgt : Int)) (h : ¬ x = y) (k : jj p l e R s m args below meth c cells slots Q nL dC dI ad cA A M tgt lv st) : jj p l e R s m args below meth c cells slots Q nL dC dI ad cA A M pc lv (.int y :: .int x :: st) := j_icmp_ne C tgt d ht (fun _ => k) (fun q => by first | exact absurd h q | exact absurd q h)
theorem j_icmp_ne_f (C : jj_C p R s m args c cells slots cc nL own Ts dC dI ad cA A) {x y : Int32} {off : Int} (tgt : Nat) (d : decode cc pc = .ok (.if_icmp .ne off, 3)) (ht : (pc : Int) + off = (tgt : Int)) (h : x = y) (k : jj p l e R s m args below meth c cells slots Q nL dC dI ad cA A M (pc + 3) lv st) : jj p l e R s m args below meth c cells slots Q nL dC dI ad cA A M pc lv (.int y :: .int x :: st) := j_icmp_ne C tgt d ht (fun q => by first | exact absurd h q | exact absurd q h) (fun _ => k)
theorem j_if_lt (C : jj_C p R s m args c cells slots cc nL own Ts dC dI ad cA A) {x : Int32} {off : Int} (tgt : Nat) (d : decode cc pc = .ok (.ifCond .lt off, 3)) (ht : (pc : Int) + off = (tgt : Int)) (kt : x < 0 → jj p l e R s m args below meth c cells slots Q nL dC dI ad cA A M tgt lv st) (kf : ¬ x < 0 → jj p l e R s m args below meth c cells slots Q nL dC dI ad cA A M (pc + 3) lv st) : jj p l e R s m args below meth c cells slots Q nL dC dI ad cA A M pc lv (.int x :: st) :=
  fun H locs ls hP hS hl => lv_if_lt C.1.1 C.1.2.1 d ht (fun q => kt q H locs ls hP hS hl) (fun q => kf q H locs ls hP hS hl)
theorem j_if_lt_t (C : jj_C p R s m args c cells slots cc nL own Ts dC dI ad cA A) {x : Int32} {off : Int} (tgt : Nat) (d : decode cc pc = .ok (.ifCond .lt off, 3)) (ht : (pc : Int) + off = (tgt : Int)) (h : x < 0) (k : jj p l e R s m args below meth c cells slots Q nL dC dI ad cA A M tgt lv st) : jj p l e R s m args below meth c cells slots Q nL dC dI ad cA A M pc lv (.int x :: st) := j_if_lt C tgt d ht (fun _ => k) (fun q => by first | exact absurd h q | exact absurd q h)
theorem j_if_lt_f (C : jj_C p R s m args c cells slots cc nL own Ts dC dI ad cA A) {x : Int32} {off : Int} (tgt : Nat) (d : decode cc pc = .ok (.ifCond .lt off, 3)) (ht : (pc : Int) + off = (tgt : Int)) (h : ¬ x < 0) (k : jj p l e R s m args below meth c cells slots Q nL dC dI ad cA A M (pc + 3) lv st) : jj p l e R s m args below meth c cells slots Q nL dC dI ad cA A M pc lv (.int x :: st) := j_if_lt C tgt d ht (fun q => by first | exact absurd h q | exact absurd q h) (fun _ => k)
theorem j_icmp_lt (C : jj_C p R s m args c cells slots cc nL own Ts dC dI ad cA A) {x y : Int32} {off : Int} (tgt : Nat) (d : decode cc pc = .ok (.if_icmp .lt off, 3)) (ht : (pc : Int) + off = (tgt : Int)) (kt : x < y → jj p l e R s m args below meth c cells slots Q nL dC dI ad cA A M tgt lv st) (kf : ¬ x < y → jj p l e R s m args below meth c cells slots Q nL dC dI ad cA A M (pc + 3) lv st) : jj p l e R s m args below meth c cells slots Q nL dC dI ad cA A M pc lv (.int y :: .int x :: st) :=
  fun H locs ls hP hS hl => lv_icmp_lt C.1.1 C.1.2.1 d ht (fun q => kt q H locs ls hP hS hl) (fun q => kf q H locs ls hP hS hl)
theorem j_icmp_lt_t (C : jj_C p R s m args c cells slots cc nL own Ts dC dI ad cA A) {x y : Int32} {off : Int} (tgt : Nat) (d : decode cc pc = .ok (.if_icmp .lt off, 3)) (ht : (pc : Int) + off = (tgt : Int)) (h : x < y) (k : jj p l e R s m args below meth c cells slots Q nL dC dI ad cA A M tgt lv st) : jj p l e R s m args below meth c cells slots Q nL dC dI ad cA A M pc lv (.int y :: .int x :: st) := j_icmp_lt C tgt d ht (fun _ => k) (fun q => by first | exact absurd h q | exact absurd q h)
theorem j_icmp_lt_f (C : jj_C p R s m args c cells slots cc nL own Ts dC dI ad cA A) {x y : Int32} {off : Int} (tgt : Nat) (d : decode cc pc = .ok (.if_icmp .lt off, 3)) (ht : (pc : Int) + off = (tgt : Int)) (h : ¬ x < y) (k : jj p l e R s m args below meth c cells slots Q nL dC dI ad cA A M (pc + 3) lv st) : jj p l e R s m args below meth c cells slots Q nL dC dI ad cA A M pc lv (.int y :: .int x :: st) := j_icmp_lt C tgt d ht (fun q => by first | exact absurd h q | exact absurd q h) (fun _ => k)
theorem j_if_ge (C : jj_C p R s m args c cells slots cc nL own Ts dC dI ad cA A) {x : Int32} {off : Int} (tgt : Nat) (d : decode cc pc = .ok (.ifCond .ge off, 3)) (ht : (pc : Int) + off = (tgt : Int)) (kt : 0 ≤ x → jj p l e R s m args below meth c cells slots Q nL dC dI ad cA A M tgt lv st) (kf : ¬ 0 ≤ x → jj p l e R s m args below meth c cells slots Q nL dC dI ad cA A M (pc + 3) lv st) : jj p l e R s m args below meth c cells slots Q nL dC dI ad cA A M pc lv (.int x :: st) :=
  fun H locs ls hP hS hl => lv_if_ge C.1.1 C.1.2.1 d ht (fun q => kt q H locs ls hP hS hl) (fun q => kf q H locs ls hP hS hl)
theorem j_if_ge_t (C : jj_C p R s m args c cells slots cc nL own Ts dC dI ad cA A) {x : Int32} {off : Int} (tgt : Nat) (d : decode cc pc = .ok (.ifCond .ge off, 3)) (ht : (pc : Int) + off = (tgt : Int)) (h : 0 ≤ x) (k : jj p l e R s m args below meth c cells slots Q nL dC dI ad cA A M tgt lv st) : jj p l e R s m args below meth c cells slots Q nL dC dI ad cA A M pc lv (.int x :: st) := j_if_ge C tgt d ht (fun _ => k) (fun q => by first | exact absurd h q | exact absurd q h)
theorem j_if_ge_f (C : jj_C p R s m args c cells slots cc nL own Ts dC dI ad cA A) {x : Int32} {off : Int} (tgt : Nat) (d : decode cc pc = .ok (.ifCond .ge off, 3)) (ht : (pc : Int) + off = (tgt : Int)) (h : ¬ 0 ≤ x) (k : jj p l e R s m args below meth c cells slots Q nL dC dI ad cA A M (pc + 3) lv st) : jj p l e R s m args below meth c cells slots Q nL dC dI ad cA A M pc lv (.int x :: st) := j_if_ge C tgt d ht (fun q => by first | exact absurd h q | exact absurd q h) (fun _ => k)
theorem j_icmp_ge (C : jj_C p R s m args c cells slots cc nL own Ts dC dI ad cA A) {x y : Int32} {off : Int} (tgt : Nat) (d : decode cc pc = .ok (.if_icmp .ge off, 3)) (ht : (pc : Int) + off = (tgt : Int)) (kt : y ≤ x → jj p l e R s m args below meth c cells slots Q nL dC dI ad cA A M tgt lv st) (kf : ¬ y ≤ x → jj p l e R s m args below meth c cells slots Q nL dC dI ad cA A M (pc + 3) lv st) : jj p l e R s m args below meth c cells slots Q nL dC dI ad cA A M pc lv (.int y :: .int x :: st) :=
  fun H locs ls hP hS hl => lv_icmp_ge C.1.1 C.1.2.1 d ht (fun q => kt q H locs ls hP hS hl) (fun q => kf q H locs ls hP hS hl)
theorem j_icmp_ge_t (C : jj_C p R s m args c cells slots cc nL own Ts dC dI ad cA A) {x y : Int32} {off : Int} (tgt : Nat) (d : decode cc pc = .ok (.if_icmp .ge off, 3)) (ht : (pc : Int) + off = (tgt : Int)) (h : y ≤ x) (k : jj p l e R s m args below meth c cells slots Q nL dC dI ad cA A M tgt lv st) : jj p l e R s m args below meth c cells slots Q nL dC dI ad cA A M pc lv (.int y :: .int x :: st) := j_icmp_ge C tgt d ht (fun _ => k) (fun q => by first | exact absurd h q | exact absurd q h)
theorem j_icmp_ge_f (C : jj_C p R s m args c cells slots cc nL own Ts dC dI ad cA A) {x y : Int32} {off : Int} (tgt : Nat) (d : decode cc pc = .ok (.if_icmp .ge off, 3)) (ht : (pc : Int) + off = (tgt : Int)) (h : ¬ y ≤ x) (k : jj p l e R s m args below meth c cells slots Q nL dC dI ad cA A M (pc + 3) lv st) : jj p l e R s m args below meth c cells slots Q nL dC dI ad cA A M pc lv (.int y :: .int x :: st) := j_icmp_ge C tgt d ht (fun q => by first | exact absurd h q | exact absurd q h) (fun _ => k)
theorem j_if_gt (C : jj_C p R s m args c cells slots cc nL own Ts dC dI ad cA A) {x : Int32} {off : Int} (tgt : Nat) (d : decode cc pc = .ok (.ifCond .gt off, 3)) (ht : (pc : Int) + off = (tgt : Int)) (kt : 0 < x → jj p l e R s m args below meth c cells slots Q nL dC dI ad cA A M tgt lv st) (kf : ¬ 0 < x → jj p l e R s m args below meth c cells slots Q nL dC dI ad cA A M (pc + 3) lv st) : jj p l e R s m args below meth c cells slots Q nL dC dI ad cA A M pc lv (.int x :: st) :=
  fun H locs ls hP hS hl => lv_if_gt C.1.1 C.1.2.1 d ht (fun q => kt q H locs ls hP hS hl) (fun q => kf q H locs ls hP hS hl)
theorem j_if_gt_t (C : jj_C p R s m args c cells slots cc nL own Ts dC dI ad cA A) {x : Int32} {off : Int} (tgt : Nat) (d : decode cc pc = .ok (.ifCond .gt off, 3)) (ht : (pc : Int) + off = (tgt : Int)) (h : 0 < x) (k : jj p l e R s m args below meth c cells slots Q nL dC dI ad cA A M tgt lv st) : jj p l e R s m args below meth c cells slots Q nL dC dI ad cA A M pc lv (.int x :: st) := j_if_gt C tgt d ht (fun _ => k) (fun q => by first | exact absurd h q | exact absurd q h)
theorem j_if_gt_f (C : jj_C p R s m args c cells slots cc nL own Ts dC dI ad cA A) {x : Int32} {off : Int} (tgt : Nat) (d : decode cc pc = .ok (.ifCond .gt off, 3)) (ht : (pc : Int) + off = (tgt : Int)) (h : ¬ 0 < x) (k : jj p l e R s m args below meth c cells slots Q nL dC dI ad cA A M (pc + 3) lv st) : jj p l e R s m args below meth c cells slots Q nL dC dI ad cA A M pc lv (.int x :: st) := j_if_gt C tgt d ht (fun q => by first | exact absurd h q | exact absurd q h) (fun _ => k)
theorem j_icmp_gt (C : jj_C p R s m args c cells slots cc nL own Ts dC dI ad cA A) {x y : Int32} {off : Int} (tgt : Nat) (d : decode cc pc = .ok (.if_icmp .gt off, 3)) (ht : (pc : Int) + off = (tgt : Int)) (kt : y < x → jj p l e R s m args below meth c cells slots Q nL dC dI ad cA A M tgt lv st) (kf : ¬ y < x → jj p l e R s m args below meth c cells slots Q nL dC dI ad cA A M (pc + 3) lv st) : jj p l e R s m args below meth c cells slots Q nL dC dI ad cA A M pc lv (.int y :: .int x :: st) :=
  fun H locs ls hP hS hl => lv_icmp_gt C.1.1 C.1.2.1 d ht (fun q => kt q H locs ls hP hS hl) (fun q => kf q H locs ls hP hS hl)
theorem j_icmp_gt_t (C : jj_C p R s m args c cells slots cc nL own Ts dC dI ad cA A) {x y : Int32} {off : Int} (tgt : Nat) (d : decode cc pc = .ok (.if_icmp .gt off, 3)) (ht : (pc : Int) + off = (tgt : Int)) (h : y < x) (k : jj p l e R s m args below meth c cells slots Q nL dC dI ad cA A M tgt lv st) : jj p l e R s m args below meth c cells slots Q nL dC dI ad cA A M pc lv (.int y :: .int x :: st) := j_icmp_gt C tgt d ht (fun _ => k) (fun q => by first | exact absurd h q | exact absurd q h)
theorem j_icmp_gt_f (C : jj_C p R s m args c cells slots cc nL own Ts dC dI ad cA A) {x y : Int32} {off : Int} (tgt : Nat) (d : decode cc pc = .ok (.if_icmp .gt off, 3)) (ht : (pc : Int) + off = (tgt : Int)) (h : ¬ y < x) (k : jj p l e R s m args below meth c cells slots Q nL dC dI ad cA A M (pc + 3) lv st) : jj p l e R s m args below meth c cells slots Q nL dC dI ad cA A M pc lv (.int y :: .int x :: st) := j_icmp_gt C tgt d ht (fun q => by first | exact absurd h q | exact absurd q h) (fun _ => k)
theorem j_if_le (C : jj_C p R s m args c cells slots cc nL own Ts dC dI ad cA A) {x : Int32} {off : Int} (tgt : Nat) (d : decode cc pc = .ok (.ifCond .le off, 3)) (ht : (pc : Int) + off = (tgt : Int)) (kt : x ≤ 0 → jj p l e R s m args below meth c cells slots Q nL dC dI ad cA A M tgt lv st) (kf : ¬ x ≤ 0 → jj p l e R s m args below meth c cells slots Q nL dC dI ad cA A M (pc + 3) lv st) : jj p l e R s m args below meth c cells slots Q nL dC dI ad cA A M pc lv (.int x :: st) :=
  fun H locs ls hP hS hl => lv_if_le C.1.1 C.1.2.1 d ht (fun q => kt q H locs ls hP hS hl) (fun q => kf q H locs ls hP hS hl)
theorem j_if_le_t (C : jj_C p R s m args c cells slots cc nL own Ts dC dI ad cA A) {x : Int32} {off : Int} (tgt : Nat) (d : decode cc pc = .ok (.ifCond .le off, 3)) (ht : (pc : Int) + off = (tgt : Int)) (h : x ≤ 0) (k : jj p l e R s m args below meth c cells slots Q nL dC dI ad cA A M tgt lv st) : jj p l e R s m args below meth c cells slots Q nL dC dI ad cA A M pc lv (.int x :: st) := j_if_le C tgt d ht (fun _ => k) (fun q => by first | exact absurd h q | exact absurd q h)
theorem j_if_le_f (C : jj_C p R s m args c cells slots cc nL own Ts dC dI ad cA A) {x : Int32} {off : Int} (tgt : Nat) (d : decode cc pc = .ok (.ifCond .le off, 3)) (ht : (pc : Int) + off = (tgt : Int)) (h : ¬ x ≤ 0) (k : jj p l e R s m args below meth c cells slots Q nL dC dI ad cA A M (pc + 3) lv st) : jj p l e R s m args below meth c cells slots Q nL dC dI ad cA A M pc lv (.int x :: st) := j_if_le C tgt d ht (fun q => by first | exact absurd h q | exact absurd q h) (fun _ => k)
theorem j_icmp_le (C : jj_C p R s m args c cells slots cc nL own Ts dC dI ad cA A) {x y : Int32} {off : Int} (tgt : Nat) (d : decode cc pc = .ok (.if_icmp .le off, 3)) (ht : (pc : Int) + off = (tgt : Int)) (kt : x ≤ y → jj p l e R s m args below meth c cells slots Q nL dC dI ad cA A M tgt lv st) (kf : ¬ x ≤ y → jj p l e R s m args below meth c cells slots Q nL dC dI ad cA A M (pc + 3) lv st) : jj p l e R s m args below meth c cells slots Q nL dC dI ad cA A M pc lv (.int y :: .int x :: st) :=
  fun H locs ls hP hS hl => lv_icmp_le C.1.1 C.1.2.1 d ht (fun q => kt q H locs ls hP hS hl) (fun q => kf q H locs ls hP hS hl)
theorem j_icmp_le_t (C : jj_C p R s m args c cells slots cc nL own Ts dC dI ad cA A) {x y : Int32} {off : Int} (tgt : Nat) (d : decode cc pc = .ok (.if_icmp .le off, 3)) (ht : (pc : Int) + off = (tgt : Int)) (h : x ≤ y) (k : jj p l e R s m args below meth c cells slots Q nL dC dI ad cA A M tgt lv st) : jj p l e R s m args below meth c cells slots Q nL dC dI ad cA A M pc lv (.int y :: .int x :: st) := j_icmp_le C tgt d ht (fun _ => k) (fun q => by first | exact absurd h q | exact absurd q h)
theorem j_icmp_le_f (C : jj_C p R s m args c cells slots cc nL own Ts dC dI ad cA A) {x y : Int32} {off : Int} (tgt : Nat) (d : decode cc pc = .ok (.if_icmp .le off, 3)) (ht : (pc : Int) + off = (tgt : Int)) (h : ¬ x ≤ y) (k : jj p l e R s m args below meth c cells slots Q nL dC dI ad cA A M (pc + 3) lv st) : jj p l e R s m args below meth c cells slots Q nL dC dI ad cA A M pc lv (.int y :: .int x :: st) := j_icmp_le C tgt d ht (fun q => by first | exact absurd h q | exact absurd q h) (fun _ => k)
theorem j_goto (C : jj_C p R s m args c cells slots cc nL own Ts dC dI ad cA A) {off : Int} (tgt : Nat) (d : decode cc pc = .ok (.goto off, 3)) (ht : (pc : Int) + off = (tgt : Int)) (k : jj p l e R s m args below meth c cells slots Q nL dC dI ad cA A M tgt lv st) : jj p l e R s m args below meth c cells slots Q nL dC dI ad cA A M pc lv st :=
  fun H locs ls hP hS hl => lv_goto C.1.1 C.1.2.1 d ht (k H locs ls hP hS hl)
theorem j_tableOut (C : jj_C p R s m args c cells slots cc nL own Ts dC dI ad cA A) {dflt lo hi : Int} {offs : Array Int} {len : Nat} {x : Int32} (tgt : Nat) (d : decode cc pc = .ok (.tableswitch dflt lo hi offs, len)) (h : x.toInt < lo ∨ hi < x.toInt) (ht : (pc : Int) + dflt = (tgt : Int)) (k : jj p l e R s m args below meth c cells slots Q nL dC dI ad cA A M tgt lv st) : jj p l e R s m args below meth c cells slots Q nL dC dI ad cA A M pc lv (.int x :: st) :=
  fun H locs ls hP hS hl => lv_tableOut C.1.1 C.1.2.1 d h ht (k H locs ls hP hS hl)
theorem j_tableIn (C : jj_C p R s m args c cells slots cc nL own Ts dC dI ad cA A) {dflt lo hi : Int} {offs : Array Int} {len : Nat} {x : Int32} {off : Int} (tgt : Nat) (d : decode cc pc = .ok (.tableswitch dflt lo hi offs, len)) (h1 : ¬ x.toInt < lo) (h2 : ¬ hi < x.toInt) (ho : offs[(x.toInt - lo).toNat]? = some off) (ht : (pc : Int) + off = (tgt : Int)) (k : jj p l e R s m args below meth c cells slots Q nL dC dI ad cA A M tgt lv st) : jj p l e R s m args below meth c cells slots Q nL dC dI ad cA A M pc lv (.int x :: st) :=
  fun H locs ls hP hS hl => lv_tableIn C.1.1 C.1.2.1 d h1 h2 ho ht (k H locs ls hP hS hl)
theorem j_lookup (C : jj_C p R s m args c cells slots cc nL own Ts dC dI ad cA A) {dflt : Int} {ps : Array (Int × Int)} {len : Nat} {x : Int32} {off : Int} (tgt : Nat) (d : decode cc pc = .ok (.lookupswitch dflt ps, len)) (hp : (ps.toList.zip (ps.toList.drop 1)).all (fun (a, next) => a.1 < next.1) = true) (ho : Op.lookupswitch.offset ps.toList dflt x.toInt = off) (ht : (pc : Int) + off = (tgt : Int)) (k : jj p l e R s m args below meth c cells slots Q nL dC dI ad cA A M tgt lv st) : jj p l e R s m args below meth c cells slots Q nL dC dI ad cA A M pc lv (.int x :: st) :=
  fun H locs ls hP hS hl => lv_lookup C.1.1 C.1.2.1 d hp ho ht (k H locs ls hP hS hl)
theorem j_getI (C : jj_C p R s m args c cells slots cc nL own Ts dC dI ad cA A) {index i k : Nat} (ci : Nat) (v : Int32) (f : jj_F Ts own index ci k) (hi : i < mm_N) (hc : mm_kc i = ci) (h9 : ci < 100) (ht : (mm_ft ci)[k]? = some 0) (hv : M.1 i k = v) (d : decode cc pc = .ok (.getfield index, 3)) (kk : jj p l e R s m args below meth c cells slots Q nL dC dI ad cA A M (pc + 3) lv (.int v :: st)) : jj p l e R s m args below meth c cells slots Q nL dC dI ad cA A M pc lv (.ref (ad i) :: st) := by
  intro H locs ls hP hS hl
  obtain ⟨Cn, T, N, h1, h2, h3, h4⟩ := f
  refine va_get (D := (dC, dI)) (ci := ci) (v := .int v) C.1.1 C.1.2.1 C.1.2.2.2.2 h3 C.1.2.2.2.1 C.2.1.1 hP i ((mm_w_get ad cA M hi).trans (by rw [mm_ob ad cA M hc h9])) h1 k h2 (C.1.2.2.2.2 _ h4) (fun _ q => q) ?_ d (kk H locs ls hP hS hl)
  rw [mm_fl_get ad M i 0 _ 0 k ht, Nat.zero_add, ← hv]; rfl
theorem j_getJ (C : jj_C p R s m args c cells slots cc nL own Ts dC dI ad cA A) {index i k : Nat} (ci : Nat) (v : Int64) (f : jj_F Ts own index ci k) (hi : i < mm_N) (hc : mm_kc i = ci) (h9 : ci < 100) (ht : (mm_ft ci)[k]? = some 1) (hv : M.2.1 i k = v) (d : decode cc pc = .ok (.getfield index, 3)) (kk : jj p l e R s m args below meth c cells slots Q nL dC dI ad cA A M (pc + 3) lv (.long v :: st)) : jj p l e R s m args below meth c cells slots Q nL dC dI ad cA A M pc lv (.ref (ad i) :: st) := by
  intro H locs ls hP hS hl
  obtain ⟨Cn, T, N, h1, h2, h3, h4⟩ := f
  refine va_get (D := (dC, dI)) (ci := ci) (v := .long v) C.1.1 C.1.2.1 C.1.2.2.2.2 h3 C.1.2.2.2.1 C.2.1.1 hP i ((mm_w_get ad cA M hi).trans (by rw [mm_ob ad cA M hc h9])) h1 k h2 (C.1.2.2.2.2 _ h4) (fun _ q => q) ?_ d (kk H locs ls hP hS hl)
  rw [mm_fl_get ad M i 1 _ 0 k ht, Nat.zero_add, ← hv]; rfl
theorem j_getP (C : jj_C p R s m args c cells slots cc nL own Ts dC dI ad cA A) {index i k : Nat} (ci : Nat) (v : Nat) (f : jj_F Ts own index ci k) (hi : i < mm_N) (hc : mm_kc i = ci) (h9 : ci < 100) (ht : (mm_ft ci)[k]? = some 2) (hv : M.2.2 i k = v) (d : decode cc pc = .ok (.getfield index, 3)) (kk : jj p l e R s m args below meth c cells slots Q nL dC dI ad cA A M (pc + 3) lv (.ref (ad v) :: st)) : jj p l e R s m args below meth c cells slots Q nL dC dI ad cA A M pc lv (.ref (ad i) :: st) := by
  intro H locs ls hP hS hl
  obtain ⟨Cn, T, N, h1, h2, h3, h4⟩ := f
  refine va_get (D := (dC, dI)) (ci := ci) (v := .ref (ad v)) C.1.1 C.1.2.1 C.1.2.2.2.2 h3 C.1.2.2.2.1 C.2.1.1 hP i ((mm_w_get ad cA M hi).trans (by rw [mm_ob ad cA M hc h9])) h1 k h2 (C.1.2.2.2.2 _ h4) (fun _ q => q) ?_ d (kk H locs ls hP hS hl)
  rw [mm_fl_get ad M i 2 _ 0 k ht, Nat.zero_add, ← hv]; rfl
theorem j_putI (C : jj_C p R s m args c cells slots cc nL own Ts dC dI ad cA A) {index i k : Nat} (ci : Nat) {ty : FieldType} {v : Int32} (f : jj_P Ts own index ci k ty) (hn : narrow ty (.int v) = .int v) (hf : fits ty (.int v) = true) (hi : i < mm_N) (hc : mm_kc i = ci) (h9 : ci < 100) (ht : (mm_ft ci)[k]? = some 0) (d : decode cc pc = .ok (.putfield index, 3)) (kk : jj p l e R s m args below meth c cells slots Q nL dC dI ad cA A (wI M i k v) (pc + 3) lv st) : jj p l e R s m args below meth c cells slots Q nL dC dI ad cA A M pc lv (.int v :: .ref (ad i) :: st) := by
  intro H locs ls hP hS hl
  obtain ⟨Cn, T, N, ty0, h1, h2, h3, h4, h5, h6, h7, h8⟩ := f
  have hD := C.2.2.1.w cA M C.2.2.2.1
  refine va_put (D := (dC, dI)) (ci := ci) (v := .int v) C.1.1 C.1.2.1 C.1.2.2.2.2 h3 ty0 h5 h6 C.1.2.2.2.1 C.2.1.1 hP hD hS i ((mm_w_get ad cA M hi).trans (by rw [mm_ob ad cA M hc h9])) h1 k h2 (C.1.2.2.2.2 _ h4) (fun _ q => q) h7 h8 hn hf (by rw [mm_fl_len]; exact (List.getElem?_eq_some_iff.mp ht).1) d (fun H1 locs1 hP1 hD1 hS1 => kk H1 locs1 ls ?_ hS1 hl)
  have e := mm_w_set ad cA M (wI M i k v) hi (e := .inr (ci, (mm_fl ad M i 0 (mm_ft ci)).set k (.int v))) (by
    rw [mm_ob ad cA _ hc h9]
    have := mm_fl_set ad M (wI M i k v) i 0 (mm_ft ci) 0 k ht (fun b u hb => by unfold mm_fv; rw [show (wI M i k v).1 i b = M.1 i b from u2_b _ _ (by omega)])
    rw [← this, Nat.zero_add, show mm_fv ad (wI M i k v) i k 0 = .int v from by unfold mm_fv; rw [if_pos rfl]; exact congrArg Value.int (u2_s _ _ _ _)]) (fun j hj => mm_ce_I ad cA M i k v hj)
  rw [← e]; exact hP1
theorem j_putJ (C : jj_C p R s m args c cells slots cc nL own Ts dC dI ad cA A) {index i k : Nat} (ci : Nat) {v : Int64} (f : jj_P Ts own index ci k .long) (hi : i < mm_N) (hc : mm_kc i = ci) (h9 : ci < 100) (ht : (mm_ft ci)[k]? = some 1) (d : decode cc pc = .ok (.putfield index, 3)) (kk : jj p l e R s m args below meth c cells slots Q nL dC dI ad cA A (wJ M i k v) (pc + 3) lv st) : jj p l e R s m args below meth c cells slots Q nL dC dI ad cA A M pc lv (.long v :: .ref (ad i) :: st) := by
  intro H locs ls hP hS hl
  obtain ⟨Cn, T, N, ty0, h1, h2, h3, h4, h5, h6, h7, h8⟩ := f
  have hD := C.2.2.1.w cA M C.2.2.2.1
  refine va_put (D := (dC, dI)) (ci := ci) (v := .long v) C.1.1 C.1.2.1 C.1.2.2.2.2 h3 ty0 h5 h6 C.1.2.2.2.1 C.2.1.1 hP hD hS i ((mm_w_get ad cA M hi).trans (by rw [mm_ob ad cA M hc h9])) h1 k h2 (C.1.2.2.2.2 _ h4) (fun _ q => q) h7 h8 rfl rfl (by rw [mm_fl_len]; exact (List.getElem?_eq_some_iff.mp ht).1) d (fun H1 locs1 hP1 hD1 hS1 => kk H1 locs1 ls ?_ hS1 hl)
  have e := mm_w_set ad cA M (wJ M i k v) hi (e := .inr (ci, (mm_fl ad M i 0 (mm_ft ci)).set k (.long v))) (by
    rw [mm_ob ad cA _ hc h9]
    have := mm_fl_set ad M (wJ M i k v) i 1 (mm_ft ci) 0 k ht (fun b u hb => by unfold mm_fv; rw [show (wJ M i k v).2.1 i b = M.2.1 i b from u2_b _ _ (by omega)])
    rw [← this, Nat.zero_add, show mm_fv ad (wJ M i k v) i k 1 = .long v from by unfold mm_fv; rw [if_neg (by decide), if_pos rfl]; exact congrArg Value.long (u2_s _ _ _ _)]) (fun j hj => mm_ce_J ad cA M i k v hj)
  rw [← e]; exact hP1
theorem j_putP (C : jj_C p R s m args c cells slots cc nL own Ts dC dI ad cA A) {index i k : Nat} (ci : Nat) {ty : FieldType} {v : Nat} (f : jj_P Ts own index ci k ty) (hn : narrow ty (.ref (ad v)) = .ref (ad v)) (hf : fits ty (.ref (ad v)) = true) (hi : i < mm_N) (hc : mm_kc i = ci) (h9 : ci < 100) (ht : (mm_ft ci)[k]? = some 2) (d : decode cc pc = .ok (.putfield index, 3)) (kk : jj p l e R s m args below meth c cells slots Q nL dC dI ad cA A (wP M i k v) (pc + 3) lv st) : jj p l e R s m args below meth c cells slots Q nL dC dI ad cA A M pc lv (.ref (ad v) :: .ref (ad i) :: st) := by
  intro H locs ls hP hS hl
  obtain ⟨Cn, T, N, ty0, h1, h2, h3, h4, h5, h6, h7, h8⟩ := f
  have hD := C.2.2.1.w cA M C.2.2.2.1
  refine va_put (D := (dC, dI)) (ci := ci) (v := .ref (ad v)) C.1.1 C.1.2.1 C.1.2.2.2.2 h3 ty0 h5 h6 C.1.2.2.2.1 C.2.1.1 hP hD hS i ((mm_w_get ad cA M hi).trans (by rw [mm_ob ad cA M hc h9])) h1 k h2 (C.1.2.2.2.2 _ h4) (fun _ q => q) h7 h8 hn hf (by rw [mm_fl_len]; exact (List.getElem?_eq_some_iff.mp ht).1) d (fun H1 locs1 hP1 hD1 hS1 => kk H1 locs1 ls ?_ hS1 hl)
  have e := mm_w_set ad cA M (wP M i k v) hi (e := .inr (ci, (mm_fl ad M i 0 (mm_ft ci)).set k (.ref (ad v)))) (by
    rw [mm_ob ad cA _ hc h9]
    have := mm_fl_set ad M (wP M i k v) i 2 (mm_ft ci) 0 k ht (fun b u hb => by unfold mm_fv; rw [show (wP M i k v).2.2 i b = M.2.2 i b from u2_b _ _ (by omega)])
    rw [← this, Nat.zero_add, show mm_fv ad (wP M i k v) i k 2 = .ref (ad v) from by unfold mm_fv; rw [if_neg (by decide), if_neg (by decide)]; exact congrArg (fun x => Value.ref (ad x)) (u2_s _ _ _ _)]) (fun j hj => mm_ce_P ad cA M i k v hj)
  rw [← e]; exact hP1
theorem j_alen (C : jj_C p R s m args c cells slots cc nL own Ts dC dI ad cA A) {i : Nat} (v : Int32) (hi : i < mm_N) (hk : 100 ≤ mm_kc i) (hv : Int32.ofNat (mm_kn i) = v) (d : decode cc pc = .ok (.arraylength, 1)) (kk : jj p l e R s m args below meth c cells slots Q nL dC dI ad cA A M (pc + 1) lv (.int v :: st)) : jj p l e R s m args below meth c cells slots Q nL dC dI ad cA A M pc lv (.ref (ad i) :: st) := by
  intro H locs ls hP hS hl
  have h0 : ∃ x : vp_A, x.1 = mm_kn i ∧ mm_ce ad cA M i = .inl (cA i, x) := by
    unfold mm_ce; rw [if_neg (by omega)]; exact ⟨_, rfl, rfl⟩
  obtain ⟨x, hx, hce⟩ := h0
  exact va_alen C.1.1 C.1.2.1 (C.2.1.one hi hk rfl) hP i 0 ((mm_w_get ad cA M hi).trans (by rw [hce])) rfl (by rw [hx]; exact hv) d (kk H locs ls hP hS hl)
theorem j_iald (C : jj_C p R s m args c cells slots cc nL own Ts dC dI ad cA A) {i : Nat} {x : Int32} (v : Int32) (hi : i < mm_N) (hk : mm_kc i = 100) (hin : vp_in x (mm_kn i)) (hv : M.1 i x.toNatClampNeg = v) (d : decode cc pc = .ok (.iaload, 1)) (kk : jj p l e R s m args below meth c cells slots Q nL dC dI ad cA A M (pc + 1) lv (.int v :: st)) : jj p l e R s m args below meth c cells slots Q nL dC dI ad cA A M pc lv (.int x :: .ref (ad i) :: st) := by
  intro H locs ls hP hS hl
  subst hv
  exact va_iald C.1.1 C.1.2.1 (C.2.1.one hi (by omega) (by unfold mm_ty; simp [hk])) hP i 0 ((mm_w_get ad cA M hi).trans (by rw [mm_ai ad cA M (Or.inl hk)])) rfl hin d (kk H locs ls hP hS hl)
theorem j_zald (C : jj_C p R s m args c cells slots cc nL own Ts dC dI ad cA A) {i : Nat} {x : Int32} (v : Int32) (hi : i < mm_N) (hk : mm_kc i = 101) (hin : vp_in x (mm_kn i)) (hv : M.1 i x.toNatClampNeg = v) (d : decode cc pc = .ok (.baload, 1)) (kk : jj p l e R s m args below meth c cells slots Q nL dC dI ad cA A M (pc + 1) lv (.int v :: st)) : jj p l e R s m args below meth c cells slots Q nL dC dI ad cA A M pc lv (.int x :: .ref (ad i) :: st) := by
  intro H locs ls hP hS hl
  subst hv
  exact va_zald C.1.1 C.1.2.1 (C.2.1.one hi (by omega) (by unfold mm_ty; simp [hk])) hP i 0 ((mm_w_get ad cA M hi).trans (by rw [mm_ai ad cA M (Or.inr hk)])) rfl hin d (kk H locs ls hP hS hl)
theorem j_lald (C : jj_C p R s m args c cells slots cc nL own Ts dC dI ad cA A) {i : Nat} {x : Int32} (v : Int64) (hi : i < mm_N) (hk : mm_kc i = 102) (hin : vp_in x (mm_kn i)) (hv : M.2.1 i x.toNatClampNeg = v) (d : decode cc pc = .ok (.laload, 1)) (kk : jj p l e R s m args below meth c cells slots Q nL dC dI ad cA A M (pc + 1) lv (.long v :: st)) : jj p l e R s m args below meth c cells slots Q nL dC dI ad cA A M pc lv (.int x :: .ref (ad i) :: st) := by
  intro H locs ls hP hS hl
  subst hv
  exact va_lald C.1.1 C.1.2.1 (C.2.1.one hi (by omega) (by unfold mm_ty; simp [hk])) hP i 0 ((mm_w_get ad cA M hi).trans (by rw [mm_aj ad cA M hk])) rfl hin d (kk H locs ls hP hS hl)
theorem j_aald (C : jj_C p R s m args c cells slots cc nL own Ts dC dI ad cA A) {i : Nat} {x : Int32} (v : Nat) (hi : i < mm_N) (hk : 103 ≤ mm_kc i) (hin : vp_in x (mm_kn i)) (hv : M.2.2 i x.toNatClampNeg = v) (d : decode cc pc = .ok (.aaload, 1)) (kk : jj p l e R s m args below meth c cells slots Q nL dC dI ad cA A M (pc + 1) lv (.ref (ad v) :: st)) : jj p l e R s m args below meth c cells slots Q nL dC dI ad cA A M pc lv (.int x :: .ref (ad i) :: st) := by
  intro H locs ls hP hS hl
  subst hv
  have h0 : ∃ Cn : String, mm_ty i = .object Cn := by
    unfold mm_ty
    rw [if_neg (by omega), if_neg (by omega), if_neg (by omega)]
    by_cases h3 : mm_kc i = 103
    · rw [if_pos h3]; exact ⟨_, rfl⟩
    · rw [if_neg h3]
      by_cases h4 : mm_kc i = 104
      · rw [if_pos h4]; exact ⟨_, rfl⟩
      · rw [if_neg h4]; exact ⟨_, rfl⟩
  obtain ⟨Cn, h0⟩ := h0
  exact va_aldq (f := fun k => some (ad (M.2.2 i k))) C.1.1 C.1.2.1 (C.2.1.one hi (by omega) h0) hP i 0 ((mm_w_get ad cA M hi).trans (by rw [mm_ap ad cA M hk])) rfl hin d (kk H locs ls hP hS hl)
theorem j_iast (C : jj_C p R s m args c cells slots cc nL own Ts dC dI ad cA A) {i : Nat} {x v : Int32} (hi : i < mm_N) (hk : mm_kc i = 100) (hin : vp_in x (mm_kn i)) (d : decode cc pc = .ok (.iastore, 1)) (kk : jj p l e R s m args below meth c cells slots Q nL dC dI ad cA A (wI M i x.toNatClampNeg v) (pc + 1) lv st) : jj p l e R s m args below meth c cells slots Q nL dC dI ad cA A M pc lv (.int v :: .int x :: .ref (ad i) :: st) := by
  intro H locs ls hP hS hl
  have hD := C.2.2.1.w cA M C.2.2.2.1
  refine va_iast C.1.1 C.1.2.1 (C.2.1.one hi (by omega) (by unfold mm_ty; simp [hk])) hP hD hS i 0 ((mm_w_get ad cA M hi).trans (by rw [mm_ai ad cA M (Or.inl hk)])) rfl hin d (fun H1 locs1 hP1 hD1 hS1 => kk H1 locs1 ls ?_ hS1 hl)
  rw [← mm_w_set ad cA M (wI M i x.toNatClampNeg v) hi (e := .inl (cA i, mm_kn i, .inl (upd (M.1 i) x.toNatClampNeg v))) (by
    rw [mm_ai ad cA _ (Or.inl hk)]
    congr 4
    funext b; simp [u2, upd]) (fun j hj => mm_ce_I ad cA M i _ v hj)]
  exact hP1
theorem j_zast (C : jj_C p R s m args c cells slots cc nL own Ts dC dI ad cA A) {i : Nat} {x v : Int32} (hi : i < mm_N) (hk : mm_kc i = 101) (hin : vp_in x (mm_kn i)) (hv : vp_nar .boolean v = v) (d : decode cc pc = .ok (.bastore, 1)) (kk : jj p l e R s m args below meth c cells slots Q nL dC dI ad cA A (wI M i x.toNatClampNeg v) (pc + 1) lv st) : jj p l e R s m args below meth c cells slots Q nL dC dI ad cA A M pc lv (.int v :: .int x :: .ref (ad i) :: st) := by
  intro H locs ls hP hS hl
  have hD := C.2.2.1.w cA M C.2.2.2.1
  refine va_zast C.1.1 C.1.2.1 (C.2.1.one hi (by omega) (by unfold mm_ty; simp [hk])) hP hD hS i 0 ((mm_w_get ad cA M hi).trans (by rw [mm_ai ad cA M (Or.inr hk)])) rfl hin d (fun H1 locs1 hP1 hD1 hS1 => kk H1 locs1 ls ?_ hS1 hl)
  rw [hv] at hP1
  rw [← mm_w_set ad cA M (wI M i x.toNatClampNeg v) hi (e := .inl (cA i, mm_kn i, .inl (upd (M.1 i) x.toNatClampNeg v))) (by
    rw [mm_ai ad cA _ (Or.inr hk)]
    congr 4
    funext b; simp [u2, upd]) (fun j hj => mm_ce_I ad cA M i _ v hj)]
  exact hP1
theorem j_last (C : jj_C p R s m args c cells slots cc nL own Ts dC dI ad cA A) {i : Nat} {x : Int32} {v : Int64} (hi : i < mm_N) (hk : mm_kc i = 102) (hin : vp_in x (mm_kn i)) (d : decode cc pc = .ok (.lastore, 1)) (kk : jj p l e R s m args below meth c cells slots Q nL dC dI ad cA A (wJ M i x.toNatClampNeg v) (pc + 1) lv st) : jj p l e R s m args below meth c cells slots Q nL dC dI ad cA A M pc lv (.long v :: .int x :: .ref (ad i) :: st) := by
  intro H locs ls hP hS hl
  have hD := C.2.2.1.w cA M C.2.2.2.1
  refine va_last C.1.1 C.1.2.1 (C.2.1.one hi (by omega) (by unfold mm_ty; simp [hk])) hP hD hS i 0 ((mm_w_get ad cA M hi).trans (by rw [mm_aj ad cA M hk])) rfl hin d (fun H1 locs1 hP1 hD1 hS1 => kk H1 locs1 ls ?_ hS1 hl)
  rw [← mm_w_set ad cA M (wJ M i x.toNatClampNeg v) hi (e := .inl (cA i, mm_kn i, .inr (.inl (vp_updL (M.2.1 i) x.toNatClampNeg v)))) (by
    rw [mm_aj ad cA _ hk]
    congr 5
    funext b; simp [u2, vp_updL]) (fun j hj => mm_ce_J ad cA M i _ v hj)]
  exact hP1
end JJ
/-- the room of a method that goes d calls deep -/
def cn_R (d : Nat) : Room := { frames := d, cells := 0, slots := 0, locals := 40 * d }
def cn_A (ad : Nat → Nat) (sz : Nat) : Nat → Prop := fun q => (∃ i, i < mm_N ∧ q = ad i) ∨ sz ≤ q
def cn_W (dC : Nat → ClassId) (dI : Nat → Nat → Nat) (ad : Nat → Nat) (cA : Nat → ClassId) (M : mm_M) (U : State) : Prop := jj_D ad ∧ va_P (dC, dI) vwCl (mm_w ad cA M) U.heap ∧ jj_K dC dI cA U ∧ jj_S dI (cn_A ad U.heap.size) U
/-- CONTRACTS: called with these arguments at memory M, the method answers r with memory M', of which post says -/
def Ci (l : Launch) (d : Nat) (y : MethodName) (ws : List Cond) (dC : Nat → ClassId) (dI : Nat → Nat → Nat) (ad : Nat → Nat) (cA : Nat → ClassId) (av : List Value) (M : mm_M) (post : Int32 → mm_M → Prop) : Prop :=
  ∀ sz : Nat, Met l y ws (cn_R d) (va_Pc av (fun U => U.heap.size = sz ∧ cn_W dC dI ad cA M U)) (va_Qi post (cn_W dC dI ad cA) (cn_A ad sz)) 0 0 (cn_A ad sz)
def Cj (l : Launch) (d : Nat) (y : MethodName) (ws : List Cond) (dC : Nat → ClassId) (dI : Nat → Nat → Nat) (ad : Nat → Nat) (cA : Nat → ClassId) (av : List Value) (M : mm_M) (post : Int64 → mm_M → Prop) : Prop :=
  ∀ sz : Nat, Met l y ws (cn_R d) (va_Pc av (fun U => U.heap.size = sz ∧ cn_W dC dI ad cA M U)) (va_Ql post (cn_W dC dI ad cA) (cn_A ad sz)) 0 0 (cn_A ad sz)
def Cv (l : Launch) (d : Nat) (y : MethodName) (ws : List Cond) (dC : Nat → ClassId) (dI : Nat → Nat → Nat) (ad : Nat → Nat) (cA : Nat → ClassId) (av : List Value) (M : mm_M) (post : mm_M → Prop) : Prop :=
  ∀ sz : Nat, Met l y ws (cn_R d) (va_Pc av (fun U => U.heap.size = sz ∧ cn_W dC dI ad cA M U)) (va_Qv post (cn_W dC dI ad cA) (cn_A ad sz)) 0 0 (cn_A ad sz)
theorem cn_Am {ad : Nat → Nat} {a b : Nat} (h : a ≤ b) : ∀ q, cn_A ad b q → cn_A ad a q := fun _ hq => hq.imp id (Nat.le_trans h)
section CN
variable {l : Launch} {d : Nat} {y : MethodName} {ws ws' : List Cond} {dC : Nat → ClassId} {dI : Nat → Nat → Nat} {ad : Nat → Nat} {cA : Nat → ClassId} {av : List Value} {M : mm_M} {cc : ByteArray} {maxL : Nat} {lv : List (Nat × Value)}
theorem ci_of {post : Int32 → mm_M → Prop} {ty : FieldType} (hy : plainName y.cls = true) (hw : ws = Cond.code y cc maxL (some ty) :: ws') (hn : ∀ r M', post r M' → narrow ty (.int r) = .int r) (hav : (lg_sl av).length ≤ maxL) (hlv : lv_args 0 av = lv)
    (body : ∀ (p : Program) (e : Env) (s : State) (m : MethodId) (args : Array Value) (below : List Frame) (meth : Method) (c : Code) (A : Nat → Prop) (Q : State → Prop), jj_C p (cn_R d) s m args c 0 0 cc maxL y.cls ws dC dI ad cA A → (∀ (r : Int32) (M' : mm_M) (pc : Nat) (lv' : List (Nat × Value)), decode cc pc = .ok (.ireturn, 1) → post r M' → jj p l e (cn_R d) s m args below meth c 0 0 Q maxL dC dI ad cA A M' pc lv' [.int r]) → jj p l e (cn_R d) s m args below meth c 0 0 Q maxL dC dI ad cA A M 0 lv []) : Ci l d y ws dC dI ad cA av M post := by
  intro sz
  refine Met.ofW (cc := cc) (maxL := maxL) (ret := some ty) hy hw ?_
  intro p e s m args below meth c s₁ B hml hv
  obtain ⟨rfl, hsz, hDD, hP, hK, hST⟩ := hv
  have hts := atoms_spec (ws := ws) B.pre
  have hown : s.vm.findClass y.cls = some m.cls := findClass_of_methodNamed B.named
  have hlocks := B.notSynchronized
  subst hsz
  have hl := lv_entry av (n := maxL) hav
  rw [lg_entry_eq]
  generalize (lg_sl av ++ List.replicate (maxL - (lg_sl av).length) Slot.unset).toArray = ls at hl ⊢
  rw [hlv] at hl
  have hS : va_S (cn_A ad s.heap.size) s.heap s.heap [] := va_S.rf
  refine body p e s m _ below meth c (cn_A ad s.heap.size) _ ⟨⟨B.exec, B.bytes, hml, hown, hts⟩, hK, hDD, fun i hi => Or.inl ⟨i, hi, rfl⟩, fun q h => Or.inr h, Nat.le_refl _, Nat.le_refl _, hST⟩ ?_ s.heap [] ls hP hS hl
  intro r M' pc lv' hdg hpost H locs ls' hP' hS' hl'
  exact W.zret B.exec B.bytes B.returns (hn r M' hpost) (fun t ht hW => ⟨⟨r, M', rfl, hpost, hDD, by rw [ht]; exact hP', hK.moved hW.alike, hST.go (cn_Am (by rw [ht]; exact hS'.1)) (by rw [ht]; exact hS'.2.1) hW⟩, hS'.F ht⟩) hS'.2.2 hdg
theorem cj_of {post : Int64 → mm_M → Prop} (hy : plainName y.cls = true) (hw : ws = Cond.code y cc maxL (some .long) :: ws') (hav : (lg_sl av).length ≤ maxL) (hlv : lv_args 0 av = lv)
    (body : ∀ (p : Program) (e : Env) (s : State) (m : MethodId) (args : Array Value) (below : List Frame) (meth : Method) (c : Code) (A : Nat → Prop) (Q : State → Prop), jj_C p (cn_R d) s m args c 0 0 cc maxL y.cls ws dC dI ad cA A → (∀ (r : Int64) (M' : mm_M) (pc : Nat) (lv' : List (Nat × Value)), decode cc pc = .ok (.lreturn, 1) → post r M' → jj p l e (cn_R d) s m args below meth c 0 0 Q maxL dC dI ad cA A M' pc lv' [.long r]) → jj p l e (cn_R d) s m args below meth c 0 0 Q maxL dC dI ad cA A M 0 lv []) : Cj l d y ws dC dI ad cA av M post := by
  intro sz
  refine Met.ofW (cc := cc) (maxL := maxL) (ret := some .long) hy hw ?_
  intro p e s m args below meth c s₁ B hml hv
  obtain ⟨rfl, hsz, hDD, hP, hK, hST⟩ := hv
  have hts := atoms_spec (ws := ws) B.pre
  have hown : s.vm.findClass y.cls = some m.cls := findClass_of_methodNamed B.named
  have hlocks := B.notSynchronized
  subst hsz
  have hl := lv_entry av (n := maxL) hav
  rw [lg_entry_eq]
  generalize (lg_sl av ++ List.replicate (maxL - (lg_sl av).length) Slot.unset).toArray = ls at hl ⊢
  rw [hlv] at hl
  have hS : va_S (cn_A ad s.heap.size) s.heap s.heap [] := va_S.rf
  refine body p e s m _ below meth c (cn_A ad s.heap.size) _ ⟨⟨B.exec, B.bytes, hml, hown, hts⟩, hK, hDD, fun i hi => Or.inl ⟨i, hi, rfl⟩, fun q h => Or.inr h, Nat.le_refl _, Nat.le_refl _, hST⟩ ?_ s.heap [] ls hP hS hl
  intro r M' pc lv' hdg hpost H locs ls' hP' hS' hl'
  exact W.lret B.exec B.bytes B.returns (fun t ht hW => ⟨⟨r, M', rfl, hpost, hDD, by rw [ht]; exact hP', hK.moved hW.alike, hST.go (cn_Am (by rw [ht]; exact hS'.1)) (by rw [ht]; exact hS'.2.1) hW⟩, hS'.F ht⟩) hS'.2.2 hdg
theorem cv_of {post : mm_M → Prop} (hy : plainName y.cls = true) (hw : ws = Cond.code y cc maxL none :: ws') (hav : (lg_sl av).length ≤ maxL) (hlv : lv_args 0 av = lv)
    (body : ∀ (p : Program) (e : Env) (s : State) (m : MethodId) (args : Array Value) (below : List Frame) (meth : Method) (c : Code) (A : Nat → Prop) (Q : State → Prop), jj_C p (cn_R d) s m args c 0 0 cc maxL y.cls ws dC dI ad cA A → (∀ (M' : mm_M) (pc : Nat) (lv' : List (Nat × Value)), decode cc pc = .ok (.return_, 1) → post M' → jj p l e (cn_R d) s m args below meth c 0 0 Q maxL dC dI ad cA A M' pc lv' []) → jj p l e (cn_R d) s m args below meth c 0 0 Q maxL dC dI ad cA A M 0 lv []) : Cv l d y ws dC dI ad cA av M post := by
  intro sz
  refine Met.ofW (cc := cc) (maxL := maxL) (ret := none) hy hw ?_
  intro p e s m args below meth c s₁ B hml hv
  obtain ⟨rfl, hsz, hDD, hP, hK, hST⟩ := hv
  have hts := atoms_spec (ws := ws) B.pre
  have hown : s.vm.findClass y.cls = some m.cls := findClass_of_methodNamed B.named
  have hlocks := B.notSynchronized
  subst hsz
  have hl := lv_entry av (n := maxL) hav
  rw [lg_entry_eq]
  generalize (lg_sl av ++ List.replicate (maxL - (lg_sl av).length) Slot.unset).toArray = ls at hl ⊢
  rw [hlv] at hl
  have hS : va_S (cn_A ad s.heap.size) s.heap s.heap [] := va_S.rf
  refine body p e s m _ below meth c (cn_A ad s.heap.size) _ ⟨⟨B.exec, B.bytes, hml, hown, hts⟩, hK, hDD, fun i hi => Or.inl ⟨i, hi, rfl⟩, fun q h => Or.inr h, Nat.le_refl _, Nat.le_refl _, hST⟩ ?_ s.heap [] ls hP hS hl
  intro M' pc lv' hdg hpost H locs ls' hP' hS' hl'
  exact W.vret B.exec B.bytes B.returns (fun t ht hW => ⟨⟨M', rfl, hpost, hDD, by rw [ht]; exact hP', hK.moved hW.alike, hST.go (cn_Am (by rw [ht]; exact hS'.1)) (by rw [ht]; exact hS'.2.1) hW⟩, hS'.F ht⟩) hS'.2.2 hdg
theorem cn_blind {sz : Nat} : FrameBlind (va_Pc av (fun U => U.heap.size = sz ∧ cn_W dC dI ad cA M U)) := by
  intro a U g mk q
  obtain ⟨q0, q1, qD, qP, qK, qS⟩ := q
  exact ⟨q0, q1, qD, qP, qK.moved (u := U) (U := U.calling g mk a) (Vm.Alike.refl U.vm), ⟨fun i hi => ⟨(qS.1 i hi).1.moved (u := U) (U := U.calling g mk a) (Vm.Alike.refl U.vm), vk_R.same (u := U) (U := U.calling g mk a) rfl (qS.1 i hi).2⟩, va_Z.moved (u := U) (U := U.calling g mk a) (Vm.Alike.refl U.vm) qS.2.1, va_Zq.moved (u := U) (U := U.calling g mk a) (Vm.Alike.refl U.vm) qS.2.2⟩⟩
end CN
section JC
variable {p : Program} {l : Launch} {e : Env} {R : Room} {s : State} {m : MethodId} {args : Array Value} {below : List Frame} {meth : Method} {c : Code} {cells slots : Nat} {Q : State → Prop} {cc : ByteArray} {nL : Nat} {own : String} {Ts : List Cond} {dC : Nat → ClassId} {dI : Nat → Nat → Nat} {ad : Nat → Nat} {cA : Nat → ClassId} {A : Nat → Prop} {M : mm_M} {pc : Nat} {lv : List (Nat × Value)} {st : List Value}
variable {d : Nat} {y : MethodName} {ws ws' : List Cond} {bytes : ByteArray} {maxL index : Nat} {ret : Option FieldType} {As : List Value}
theorem j_A (C : jj_C p R s m args c cells slots cc nL own Ts dC dI ad cA A) {H : Heap} {locs : List Loc} (hS : va_S A s.heap H locs) : ∀ q, cn_A ad H.size q → A q := by
  intro q h
  rcases h with ⟨i, hi, rfl⟩ | h
  · exact C.2.2.2.1 i hi
  · exact C.2.2.2.2.1 q (Nat.le_trans hS.1 h)
theorem j_pre (C : jj_C p R s m args c cells slots cc nL own Ts dC dI ad cA A) {H : Heap} (hP : va_P (dC, dI) vwCl (mm_w ad cA M) H) {locs : List Loc} (hS : va_S A s.heap H locs) (U : State) (hU : U.heap = H) (hW : s.WarmedH U.vm) : U.heap.size = H.size ∧ cn_W dC dI ad cA M U :=
  ⟨by rw [hU], C.2.2.1, by rw [hU]; exact hP, C.2.1.moved hW.alike, C.2.2.2.2.2.2.2.go (by rw [hU]; exact j_A C hS) (by rw [hU]; exact hS.2.1) hW⟩
/-- a call of an object's method -/
theorem j_runV {Qc : Array Value → State → Outcome → State → Prop} {free : Addr → Prop} (C : jj_C p R s m args c cells slots cc nL own Ts dC dI ad cA A) {i ci : Nat} {Cn : String} {T : u_T} {N : Nat} (hi : i < mm_N) (hk : mm_kc i = ci) (h9 : ci < 100) (hc : vwCl[ci]? = some (Cn, T, N)) {H : Heap} {locs : List Loc} {ls : Array Slot} (hP : va_P (dC, dI) vwCl (mm_w ad cA M) H) (hS : va_S A s.heap H locs) (hl : lv_has ls nL lv)
    (hM : Met l y ws (cn_R d) (va_Pc (.ref (ad i) :: As) (fun U => U.heap.size = H.size ∧ cn_W dC dI ad cA M U)) Qc 0 0 free) (g : GoodIn Ts (wsV own index Cn y ws)) (hw : ws = Cond.code y bytes maxL ret :: ws')
    (hd : y.cls = Cn ∧ y.cls ≠ "java/lang/invoke/MethodHandle" ∧ y.cls ≠ "java/lang/invoke/VarHandle" ∧ (parseMethodDescriptor y.desc).map (fun d => d.parameters.length) = some As.length) (hR : d + 1 ≤ R.frames ∧ 8 + (maxL + 11) + 40 * d ≤ R.locals) (hr : (st.map fun v => v.category).sum ≤ 8) (hdg : decode cc pc = .ok (.invokevirtual index, 3)) {st0 : List Value} (hst : st0 = As.reverse ++ .ref (ad i) :: st) :
    va_Run p l e R s m args below meth c H locs cells slots 0 0 (F0 m pc ls st0) st (Qc (Value.ref (ad i) :: As).toArray) free := by
  subst hst
  exact va_runV (As := As) (rest := st) C.1 hM (cwV As.length C.1.2.2.2.2 g hw rfl rfl hd hR) ⟨cn_blind, va_recv C.2.1.1 hP hc ((mm_w_get ad cA M hi).trans (by rw [mm_ob ad cA M hk h9])), fun U hU hW => ⟨rfl, j_pre C hP hS U hU hW⟩⟩ rfl rfl hl.1 rfl (lv_room hr) hdg ⟨C.2.2.2.2.2.1, C.2.2.2.2.2.2.1⟩
theorem j_runS {Qc : Array Value → State → Outcome → State → Prop} {free : Addr → Prop} (C : jj_C p R s m args c cells slots cc nL own Ts dC dI ad cA A) {H : Heap} {locs : List Loc} {ls : Array Slot} (hP : va_P (dC, dI) vwCl (mm_w ad cA M) H) (hS : va_S A s.heap H locs) (hl : lv_has ls nL lv)
    (hM : Met l y ws (cn_R d) (va_Pc As (fun U => U.heap.size = H.size ∧ cn_W dC dI ad cA M U)) Qc 0 0 free) (g : GoodIn Ts (va_wsS own index y ws)) (hw : ws = Cond.code y bytes maxL ret :: ws')
    (hd : y.cls ≠ "java/lang/invoke/MethodHandle" ∧ y.cls ≠ "java/lang/invoke/VarHandle" ∧ (parseMethodDescriptor y.desc).map (fun d => d.parameters.length) = some As.length) (hR : d + 1 ≤ R.frames ∧ 8 + (maxL + 11) + 40 * d ≤ R.locals) (hr : (st.map fun v => v.category).sum ≤ 8) (hdg : decode cc pc = .ok (.invokestatic index, 3)) {st0 : List Value} (hst : st0 = As.reverse ++ st) :
    va_Run p l e R s m args below meth c H locs cells slots 0 0 (F0 m pc ls st0) st (Qc As.toArray) free := by
  subst hst
  exact va_runS (As := As) (rest := st) C.1 hM (va_cwS As.length C.1.2.2.2.2 g hw rfl rfl hd hR) ⟨cn_blind, fun U hU hW => ⟨rfl, j_pre C hP hS U hU hW⟩⟩ rfl rfl hl.1 rfl (lv_room hr) hdg ⟨C.2.2.2.2.2.1, C.2.2.2.2.2.2.1⟩
theorem j_kP (C : jj_C p R s m args c cells slots cc nL own Ts dC dI ad cA A) {M' : mm_M} {t : State} {H1 : Heap} (ht : t.heap = H1) (hB : cn_W dC dI ad cA M' t) : va_P (dC, dI) vwCl (mm_w ad cA M') H1 := by rw [← ht]; exact hB.2.1
theorem j_callVi (C : jj_C p R s m args c cells slots cc nL own Ts dC dI ad cA A) {post : Int32 → mm_M → Prop} (i : Nat) {ci : Nat} {Cn : String} {T : u_T} {N : Nat} (hi : i < mm_N) (hk : mm_kc i = ci) (h9 : ci < 100) (hc : vwCl[ci]? = some (Cn, T, N)) (hM : Ci l d y ws dC dI ad cA (.ref (ad i) :: As) M post) (g : GoodIn Ts (wsV own index Cn y ws)) (hw : ws = Cond.code y bytes maxL ret :: ws') (hd : y.cls = Cn ∧ y.cls ≠ "java/lang/invoke/MethodHandle" ∧ y.cls ≠ "java/lang/invoke/VarHandle" ∧ (parseMethodDescriptor y.desc).map (fun d => d.parameters.length) = some As.length) (hR : d + 1 ≤ R.frames ∧ 8 + (maxL + 11) + 40 * d ≤ R.locals) (hr : (st.map fun v => v.category).sum ≤ 8) (hdg : decode cc pc = .ok (.invokevirtual index, 3)) {st0 : List Value} (hst : st0 = As.reverse ++ .ref (ad i) :: st) (kk : ∀ (r : Int32) (M' : mm_M), post r M' → jj p l e R s m args below meth c cells slots Q nL dC dI ad cA A M' (pc + 3) lv (.int r :: st)) : jj p l e R s m args below meth c cells slots Q nL dC dI ad cA A M pc lv st0 := by
  intro H locs ls hP hS hl
  exact va_calli (j_runV C hi hk h9 hc hP hS hl (hM H.size) g hw hd hR hr hdg hst) hS (fun q _ h => j_A C hS q h) (j_A C hS) (fun r u t H1 locs1 ht hvm hw1 hB hz1 hk1 hS1 => kk r u hw1 H1 locs1 ls (j_kP C ht hB) hS1 hl)
theorem j_callVj (C : jj_C p R s m args c cells slots cc nL own Ts dC dI ad cA A) {post : Int64 → mm_M → Prop} (i : Nat) {ci : Nat} {Cn : String} {T : u_T} {N : Nat} (hi : i < mm_N) (hk : mm_kc i = ci) (h9 : ci < 100) (hc : vwCl[ci]? = some (Cn, T, N)) (hM : Cj l d y ws dC dI ad cA (.ref (ad i) :: As) M post) (g : GoodIn Ts (wsV own index Cn y ws)) (hw : ws = Cond.code y bytes maxL ret :: ws') (hd : y.cls = Cn ∧ y.cls ≠ "java/lang/invoke/MethodHandle" ∧ y.cls ≠ "java/lang/invoke/VarHandle" ∧ (parseMethodDescriptor y.desc).map (fun d => d.parameters.length) = some As.length) (hR : d + 1 ≤ R.frames ∧ 8 + (maxL + 11) + 40 * d ≤ R.locals) (hr : (st.map fun v => v.category).sum ≤ 8) (hdg : decode cc pc = .ok (.invokevirtual index, 3)) {st0 : List Value} (hst : st0 = As.reverse ++ .ref (ad i) :: st) (kk : ∀ (r : Int64) (M' : mm_M), post r M' → jj p l e R s m args below meth c cells slots Q nL dC dI ad cA A M' (pc + 3) lv (.long r :: st)) : jj p l e R s m args below meth c cells slots Q nL dC dI ad cA A M pc lv st0 := by
  intro H locs ls hP hS hl
  exact va_calll (j_runV C hi hk h9 hc hP hS hl (hM H.size) g hw hd hR hr hdg hst) hS (fun q _ h => j_A C hS q h) (j_A C hS) (fun r u t H1 locs1 ht hvm hw1 hB hz1 hk1 hS1 => kk r u hw1 H1 locs1 ls (j_kP C ht hB) hS1 hl)
theorem j_callVv (C : jj_C p R s m args c cells slots cc nL own Ts dC dI ad cA A) {post : mm_M → Prop} (i : Nat) {ci : Nat} {Cn : String} {T : u_T} {N : Nat} (hi : i < mm_N) (hk : mm_kc i = ci) (h9 : ci < 100) (hc : vwCl[ci]? = some (Cn, T, N)) (hM : Cv l d y ws dC dI ad cA (.ref (ad i) :: As) M post) (g : GoodIn Ts (wsV own index Cn y ws)) (hw : ws = Cond.code y bytes maxL ret :: ws') (hd : y.cls = Cn ∧ y.cls ≠ "java/lang/invoke/MethodHandle" ∧ y.cls ≠ "java/lang/invoke/VarHandle" ∧ (parseMethodDescriptor y.desc).map (fun d => d.parameters.length) = some As.length) (hR : d + 1 ≤ R.frames ∧ 8 + (maxL + 11) + 40 * d ≤ R.locals) (hr : (st.map fun v => v.category).sum ≤ 8) (hdg : decode cc pc = .ok (.invokevirtual index, 3)) {st0 : List Value} (hst : st0 = As.reverse ++ .ref (ad i) :: st) (kk : ∀ M' : mm_M, post M' → jj p l e R s m args below meth c cells slots Q nL dC dI ad cA A M' (pc + 3) lv st) : jj p l e R s m args below meth c cells slots Q nL dC dI ad cA A M pc lv st0 := by
  intro H locs ls hP hS hl
  exact va_callv (j_runV C hi hk h9 hc hP hS hl (hM H.size) g hw hd hR hr hdg hst) hS (fun q _ h => j_A C hS q h) (j_A C hS) (fun u t H1 locs1 ht hvm hw1 hB hz1 hk1 hS1 => kk u hw1 H1 locs1 ls (j_kP C ht hB) hS1 hl)
theorem j_callSi (C : jj_C p R s m args c cells slots cc nL own Ts dC dI ad cA A) {post : Int32 → mm_M → Prop} (hM : Ci l d y ws dC dI ad cA As M post) (g : GoodIn Ts (va_wsS own index y ws)) (hw : ws = Cond.code y bytes maxL ret :: ws') (hd : y.cls ≠ "java/lang/invoke/MethodHandle" ∧ y.cls ≠ "java/lang/invoke/VarHandle" ∧ (parseMethodDescriptor y.desc).map (fun d => d.parameters.length) = some As.length) (hR : d + 1 ≤ R.frames ∧ 8 + (maxL + 11) + 40 * d ≤ R.locals) (hr : (st.map fun v => v.category).sum ≤ 8) (hdg : decode cc pc = .ok (.invokestatic index, 3)) {st0 : List Value} (hst : st0 = As.reverse ++ st) (kk : ∀ (r : Int32) (M' : mm_M), post r M' → jj p l e R s m args below meth c cells slots Q nL dC dI ad cA A M' (pc + 3) lv (.int r :: st)) : jj p l e R s m args below meth c cells slots Q nL dC dI ad cA A M pc lv st0 := by
  intro H locs ls hP hS hl
  exact va_calli (j_runS C hP hS hl (hM H.size) g hw hd hR hr hdg hst) hS (fun q _ h => j_A C hS q h) (j_A C hS) (fun r u t H1 locs1 ht hvm hw1 hB hz1 hk1 hS1 => kk r u hw1 H1 locs1 ls (j_kP C ht hB) hS1 hl)
theorem j_callSj (C : jj_C p R s m args c cells slots cc nL own Ts dC dI ad cA A) {post : Int64 → mm_M → Prop} (hM : Cj l d y ws dC dI ad cA As M post) (g : GoodIn Ts (va_wsS own index y ws)) (hw : ws = Cond.code y bytes maxL ret :: ws') (hd : y.cls ≠ "java/lang/invoke/MethodHandle" ∧ y.cls ≠ "java/lang/invoke/VarHandle" ∧ (parseMethodDescriptor y.desc).map (fun d => d.parameters.length) = some As.length) (hR : d + 1 ≤ R.frames ∧ 8 + (maxL + 11) + 40 * d ≤ R.locals) (hr : (st.map fun v => v.category).sum ≤ 8) (hdg : decode cc pc = .ok (.invokestatic index, 3)) {st0 : List Value} (hst : st0 = As.reverse ++ st) (kk : ∀ (r : Int64) (M' : mm_M), post r M' → jj p l e R s m args below meth c cells slots Q nL dC dI ad cA A M' (pc + 3) lv (.long r :: st)) : jj p l e R s m args below meth c cells slots Q nL dC dI ad cA A M pc lv st0 := by
  intro H locs ls hP hS hl
  exact va_calll (j_runS C hP hS hl (hM H.size) g hw hd hR hr hdg hst) hS (fun q _ h => j_A C hS q h) (j_A C hS) (fun r u t H1 locs1 ht hvm hw1 hB hz1 hk1 hS1 => kk r u hw1 H1 locs1 ls (j_kP C ht hB) hS1 hl)
theorem j_callSv (C : jj_C p R s m args c cells slots cc nL own Ts dC dI ad cA A) {post : mm_M → Prop} (hM : Cv l d y ws dC dI ad cA As M post) (g : GoodIn Ts (va_wsS own index y ws)) (hw : ws = Cond.code y bytes maxL ret :: ws') (hd : y.cls ≠ "java/lang/invoke/MethodHandle" ∧ y.cls ≠ "java/lang/invoke/VarHandle" ∧ (parseMethodDescriptor y.desc).map (fun d => d.parameters.length) = some As.length) (hR : d + 1 ≤ R.frames ∧ 8 + (maxL + 11) + 40 * d ≤ R.locals) (hr : (st.map fun v => v.category).sum ≤ 8) (hdg : decode cc pc = .ok (.invokestatic index, 3)) {st0 : List Value} (hst : st0 = As.reverse ++ st) (kk : ∀ M' : mm_M, post M' → jj p l e R s m args below meth c cells slots Q nL dC dI ad cA A M' (pc + 3) lv st) : jj p l e R s m args below meth c cells slots Q nL dC dI ad cA A M pc lv st0 := by
  intro H locs ls hP hS hl
  exact va_callv (j_runS C hP hS hl (hM H.size) g hw hd hR hr hdg hst) hS (fun q _ h => j_A C hS q h) (j_A C hS) (fun u t H1 locs1 ht hvm hw1 hB hz1 hk1 hS1 => kk u hw1 H1 locs1 ls (j_kP C ht hB) hS1 hl)
end JC
end
section
section JZ
variable {p : Program} {l : Launch} {e : Env} {R : Room} {s : State} {m : MethodId} {args : Array Value} {below : List Frame} {meth : Method} {c : Code} {cells slots : Nat} {Q : State → Prop} {cc : ByteArray} {nL : Nat} {own : String} {Ts : List Cond} {dC : Nat → ClassId} {dI : Nat → Nat → Nat} {ad : Nat → Nat} {cA : Nat → ClassId} {A : Nat → Prop} {M : mm_M} {pc : Nat} {lv : List (Nat × Value)} {st : List Value}
theorem z_cmp (x y : Int64) : (lg_cmp x y < 0 ↔ x.toInt < y.toInt) ∧ (lg_cmp x y ≤ 0 ↔ x.toInt ≤ y.toInt) ∧ (0 ≤ lg_cmp x y ↔ y.toInt ≤ x.toInt) ∧ (0 < lg_cmp x y ↔ y.toInt < x.toInt) ∧ (lg_cmp x y = 0 ↔ x.toInt = y.toInt) := by
  unfold lg_cmp
  simp only [gt_iff_lt, Int64.lt_iff_toInt_lt, ← Int64.toInt_inj]
  by_cases h1 : y.toInt < x.toInt
  · rw [if_pos h1]
    refine ⟨⟨fun h => absurd h (by decide), fun h => by omega⟩, ⟨fun h => absurd h (by decide), fun h => by omega⟩, ⟨fun _ => by omega, fun _ => by decide⟩, ⟨fun _ => h1, fun _ => by decide⟩, ⟨fun h => absurd h (by decide), fun h => by omega⟩⟩
  · rw [if_neg h1]
    by_cases h2 : x.toInt = y.toInt
    · rw [if_pos h2]
      refine ⟨⟨fun h => absurd h (by decide), fun h => by omega⟩, ⟨fun _ => by omega, fun _ => by decide⟩, ⟨fun _ => by omega, fun _ => by decide⟩, ⟨fun h => absurd h (by decide), fun h => by omega⟩, ⟨fun _ => h2, fun _ => by decide⟩⟩
    · rw [if_neg h2]
      refine ⟨⟨fun _ => by omega, fun _ => by decide⟩, ⟨fun _ => by omega, fun _ => by decide⟩, ⟨fun h => absurd h (by decide), fun h => by omega⟩, ⟨fun h => absurd h (by decide), fun h => by omega⟩, ⟨fun h => absurd h (by decide), fun h => by omega⟩⟩
theorem z_if_eq (C : jj_C p R s m args c cells slots cc nL own Ts dC dI ad cA A) {x : Int32} {off : Int} (tgt : Nat) (a : Int) (hx : x.toInt = a) (d : decode cc pc = .ok (.ifCond .eq off, 3)) (ht : (pc : Int) + off = (tgt : Int)) (kt : a = 0 → jj p l e R s m args below meth c cells slots Q nL dC dI ad cA A M tgt lv st) (kf : ¬ a = 0 → jj p l e R s m args below meth c cells slots Q nL dC dI ad cA A M (pc + 3) lv st) : jj p l e R s m args below meth c cells slots Q nL dC dI ad cA A M pc lv (.int x :: st) := by
  subst hx
  exact j_if_eq C tgt d ht (fun q => kt (by simpa only [Int32.lt_iff_toInt_lt, Int32.le_iff_toInt_le, ← Int32.toInt_inj, Int32.toInt_zero] using q)) (fun q => kf (by simpa only [Int32.lt_iff_toInt_lt, Int32.le_iff_toInt_le, ← Int32.toInt_inj, Int32.toInt_zero] using q))
theorem z_icmp_eq (C : jj_C p R s m args c cells slots cc nL own Ts dC dI ad cA A) {x y : Int32} {off : Int} (tgt : Nat) (a b : Int) (hx : x.toInt = a) (hy : y.toInt = b) (d : decode cc pc = .ok (.if_icmp .eq off, 3)) (ht : (pc : Int) + off = (tgt : Int)) (kt : a = b → jj p l e R s m args below meth c cells slots Q nL dC dI ad cA A M tgt lv st) (kf : ¬ a = b → jj p l e R s m args below meth c cells slots Q nL dC dI ad cA A M (pc + 3) lv st) : jj p l e R s m args below meth c cells slots Q nL dC dI ad cA A M pc lv (.int y :: .int x :: st) := by
  subst hx
  subst hy
  exact j_icmp_eq C tgt d ht (fun q => kt (by simpa only [Int32.lt_iff_toInt_lt, Int32.le_iff_toInt_le, ← Int32.toInt_inj, Int32.toInt_zero] using q)) (fun q => kf (by simpa only [Int32.lt_iff_toInt_lt, Int32.le_iff_toInt_le, ← Int32.toInt_inj, Int32.toInt_zero] using q))
theorem z_lcmp_eq (C : jj_C p R s m args c cells slots cc nL own Ts dC dI ad cA A) {x y : Int64} {off : Int} (tgt : Nat) (a b : Int) (hx : x.toInt = a) (hy : y.toInt = b) (d : decode cc pc = .ok (.lcmp, 1)) (d2 : decode cc (pc + 1) = .ok (.ifCond .eq off, 3)) (ht : ((pc + 1 : Nat) : Int) + off = (tgt : Int)) (kt : a = b → jj p l e R s m args below meth c cells slots Q nL dC dI ad cA A M tgt lv st) (kf : ¬ a = b → jj p l e R s m args below meth c cells slots Q nL dC dI ad cA A M (pc + 4) lv st) : jj p l e R s m args below meth c cells slots Q nL dC dI ad cA A M pc lv (.long y :: .long x :: st) := by
  subst hx
  subst hy
  exact j_lcmp C d (j_if_eq C tgt d2 ht (fun q => kt ((z_cmp x y).2.2.2.2.mp q)) (fun q => kf (fun z => q ((z_cmp x y).2.2.2.2.mpr z))))
theorem z_if_ne (C : jj_C p R s m args c cells slots cc nL own Ts dC dI ad cA A) {x : Int32} {off : Int} (tgt : Nat) (a : Int) (hx : x.toInt = a) (d : decode cc pc = .ok (.ifCond .ne off, 3)) (ht : (pc : Int) + off = (tgt : Int)) (kt : ¬ a = 0 → jj p l e R s m args below meth c cells slots Q nL dC dI ad cA A M tgt lv st) (kf : a = 0 → jj p l e R s m args below meth c cells slots Q nL dC dI ad cA A M (pc + 3) lv st) : jj p l e R s m args below meth c cells slots Q nL dC dI ad cA A M pc lv (.int x :: st) := by
  subst hx
  exact j_if_ne C tgt d ht (fun q => kt (by simpa only [Int32.lt_iff_toInt_lt, Int32.le_iff_toInt_le, ← Int32.toInt_inj, Int32.toInt_zero] using q)) (fun q => kf (by simpa only [Int32.lt_iff_toInt_lt, Int32.le_iff_toInt_le, ← Int32.toInt_inj, Int32.toInt_zero] using q))
theorem z_icmp_ne (C : jj_C p R s m args c cells slots cc nL own Ts dC dI ad cA A) {x y : Int32} {off : Int} (tgt : Nat) (a b : Int) (hx : x.toInt = a) (hy : y.toInt = b) (d : decode cc pc = .ok (.if_icmp .ne off, 3)) (ht : (pc : Int) + off = (tgt : Int)) (kt : ¬ a = b → jj p l e R s m args below meth c cells slots Q nL dC dI ad cA A M tgt lv st) (kf : a = b → jj p l e R s m args below meth c cells slots Q nL dC dI ad cA A M (pc + 3) lv st) : jj p l e R s m args below meth c cells slots Q nL dC dI ad cA A M pc lv (.int y :: .int x :: st) := by
  subst hx
  subst hy
  exact j_icmp_ne C tgt d ht (fun q => kt (by simpa only [Int32.lt_iff_toInt_lt, Int32.le_iff_toInt_le, ← Int32.toInt_inj, Int32.toInt_zero] using q)) (fun q => kf (by simpa only [Int32.lt_iff_toInt_lt, Int32.le_iff_toInt_le, ← Int32.toInt_inj, Int32.toInt_zero] using q))
theorem z_lcmp_ne (C : jj_C p R s m args c cells slots cc nL own Ts dC dI ad cA A) {x y : Int64} {off : Int} (tgt : Nat) (a b : Int) (hx : x.toInt = a) (hy : y.toInt = b) (d : decode cc pc = .ok (.lcmp, 1)) (d2 : decode cc (pc + 1) = .ok (.ifCond .ne off, 3)) (ht : ((pc + 1 : Nat) : Int) + off = (tgt : Int)) (kt : ¬ a = b → jj p l e R s m args below meth c cells slots Q nL dC dI ad cA A M tgt lv st) (kf : a = b → jj p l e R s m args below meth c cells slots Q nL dC dI ad cA A M (pc + 4) lv st) : jj p l e R s m args below meth c cells slots Q nL dC dI ad cA A M pc lv (.long y :: .long x :: st) := by
  subst hx
  subst hy
  exact j_lcmp C d (j_if_ne C tgt d2 ht (fun q => kt (fun z => q ((z_cmp x y).2.2.2.2.mpr z))) (fun q => kf ((z_cmp x y).2.2.2.2.mp q)))
theorem z_if_lt (C : jj_C p R s m args c cells slots cc nL own Ts dC dI ad cA A) {x : Int32} {off : Int} (tgt : Nat) (a : Int) (hx : x.toInt = a) (d : decode cc pc = .ok (.ifCond .lt off, 3)) (ht : (pc : Int) + off = (tgt : Int)) (kt : a < 0 → jj p l e R s m args below meth c cells slots Q nL dC dI ad cA A M tgt lv st) (kf : ¬ a < 0 → jj p l e R s m args below meth c cells slots Q nL dC dI ad cA A M (pc + 3) lv st) : jj p l e R s m args below meth c cells slots Q nL dC dI ad cA A M pc lv (.int x :: st) := by
  subst hx
  exact j_if_lt C tgt d ht (fun q => kt (by simpa only [Int32.lt_iff_toInt_lt, Int32.le_iff_toInt_le, ← Int32.toInt_inj, Int32.toInt_zero] using q)) (fun q => kf (by simpa only [Int32.lt_iff_toInt_lt, Int32.le_iff_toInt_le, ← Int32.toInt_inj, Int32.toInt_zero] using q))
theorem z_icmp_lt (C : jj_C p R s m args c cells slots cc nL own Ts dC dI ad cA A) {x y : Int32} {off : Int} (tgt : Nat) (a b : Int) (hx : x.toInt = a) (hy : y.toInt = b) (d : decode cc pc = .ok (.if_icmp .lt off, 3)) (ht : (pc : Int) + off = (tgt : Int)) (kt : a < b → jj p l e R s m args below meth c cells slots Q nL dC dI ad cA A M tgt lv st) (kf : ¬ a < b → jj p l e R s m args below meth c cells slots Q nL dC dI ad cA A M (pc + 3) lv st) : jj p l e R s m args below meth c cells slots Q nL dC dI ad cA A M pc lv (.int y :: .int x :: st) := by
  subst hx
  subst hy
  exact j_icmp_lt C tgt d ht (fun q => kt (by simpa only [Int32.lt_iff_toInt_lt, Int32.le_iff_toInt_le, ← Int32.toInt_inj, Int32.toInt_zero] using q)) (fun q => kf (by simpa only [Int32.lt_iff_toInt_lt, Int32.le_iff_toInt_le, ← Int32.toInt_inj, Int32.toInt_zero] using q))
theorem z_lcmp_lt (C : jj_C p R s m args c cells slots cc nL own Ts dC dI ad cA A) {x y : Int64} {off : Int} (tgt : Nat) (a b : Int) (hx : x.toInt = a) (hy : y.toInt = b) (d : decode cc pc = .ok (.lcmp, 1)) (d2 : decode cc (pc + 1) = .ok (.ifCond .lt off, 3)) (ht : ((pc + 1 : Nat) : Int) + off = (tgt : Int)) (kt : a < b → jj p l e R s m args below meth c cells slots Q nL dC dI ad cA A M tgt lv st) (kf : ¬ a < b → jj p l e R s m args below meth c cells slots Q nL dC dI ad cA A M (pc + 4) lv st) : jj p l e R s m args below meth c cells slots Q nL dC dI ad cA A M pc lv (.long y :: .long x :: st) := by
  subst hx
  subst hy
  exact j_lcmp C d (j_if_lt C tgt d2 ht (fun q => kt ((z_cmp x y).1.mp q)) (fun q => kf (fun z => q ((z_cmp x y).1.mpr z))))
theorem z_if_ge (C : jj_C p R s m args c cells slots cc nL own Ts dC dI ad cA A) {x : Int32} {off : Int} (tgt : Nat) (a : Int) (hx : x.toInt = a) (d : decode cc pc = .ok (.ifCond .ge off, 3)) (ht : (pc : Int) + off = (tgt : Int)) (kt : 0 ≤ a → jj p l e R s m args below meth c cells slots Q nL dC dI ad cA A M tgt lv st) (kf : ¬ 0 ≤ a → jj p l e R s m args below meth c cells slots Q nL dC dI ad cA A M (pc + 3) lv st) : jj p l e R s m args below meth c cells slots Q nL dC dI ad cA A M pc lv (.int x :: st) := by
  subst hx
  exact j_if_ge C tgt d ht (fun q => kt (by simpa only [Int32.lt_iff_toInt_lt, Int32.le_iff_toInt_le, ← Int32.toInt_inj, Int32.toInt_zero] using q)) (fun q => kf (by simpa only [Int32.lt_iff_toInt_lt, Int32.le_iff_toInt_le, ← Int32.toInt_inj, Int32.toInt_zero] using q))
theorem z_icmp_ge (C : jj_C p R s m args c cells slots cc nL own Ts dC dI ad cA A) {x y : Int32} {off : Int} (tgt : Nat) (a b : Int) (hx : x.toInt = a) (hy : y.toInt = b) (d : decode cc pc = .ok (.if_icmp .ge off, 3)) (ht : (pc : Int) + off = (tgt : Int)) (kt : b ≤ a → jj p l e R s m args below meth c cells slots Q nL dC dI ad cA A M tgt lv st) (kf : ¬ b ≤ a → jj p l e R s m args below meth c cells slots Q nL dC dI ad cA A M (pc + 3) lv st) : jj p l e R s m args below meth c cells slots Q nL dC dI ad cA A M pc lv (.int y :: .int x :: st) := by
  subst hx
  subst hy
  exact j_icmp_ge C tgt d ht (fun q => kt (by simpa only [Int32.lt_iff_toInt_lt, Int32.le_iff_toInt_le, ← Int32.toInt_inj, Int32.toInt_zero] using q)) (fun q => kf (by simpa only [Int32.lt_iff_toInt_lt, Int32.le_iff_toInt_le, ← Int32.toInt_inj, Int32.toInt_zero] using q))
theorem z_lcmp_ge (C : jj_C p R s m args c cells slots cc nL own Ts dC dI ad cA A) {x y : Int64} {off : Int} (tgt : Nat) (a b : Int) (hx : x.toInt = a) (hy : y.toInt = b) (d : decode cc pc = .ok (.lcmp, 1)) (d2 : decode cc (pc + 1) = .ok (.ifCond .ge off, 3)) (ht : ((pc + 1 : Nat) : Int) + off = (tgt : Int)) (kt : b ≤ a → jj p l e R s m args below meth c cells slots Q nL dC dI ad cA A M tgt lv st) (kf : ¬ b ≤ a → jj p l e R s m args below meth c cells slots Q nL dC dI ad cA A M (pc + 4) lv st) : jj p l e R s m args below meth c cells slots Q nL dC dI ad cA A M pc lv (.long y :: .long x :: st) := by
  subst hx
  subst hy
  exact j_lcmp C d (j_if_ge C tgt d2 ht (fun q => kt ((z_cmp x y).2.2.1.mp q)) (fun q => kf (fun z => q ((z_cmp x y).2.2.1.mpr z))))
theorem z_if_gt (C : jj_C p R s m args c cells slots cc nL own Ts dC dI ad cA A) {x : Int32} {off : Int} (tgt : Nat) (a : Int) (hx : x.toInt = a) (d : decode cc pc = .ok (.ifCond .gt off, 3)) (ht : (pc : Int) + off = (tgt : Int)) (kt : 0 < a → jj p l e R s m args below meth c cells slots Q nL dC dI ad cA A M tgt lv st) (kf : ¬ 0 < a → jj p l e R s m args below meth c cells slots Q nL dC dI ad cA A M (pc + 3) lv st) : jj p l e R s m args below meth c cells slots Q nL dC dI ad cA A M pc lv (.int x :: st) := by
  subst hx
  exact j_if_gt C tgt d ht (fun q => kt (by simpa only [Int32.lt_iff_toInt_lt, Int32.le_iff_toInt_le, ← Int32.toInt_inj, Int32.toInt_zero] using q)) (fun q => kf (by simpa only [Int32.lt_iff_toInt_lt, Int32.le_iff_toInt_le, ← Int32.toInt_inj, Int32.toInt_zero] using q))
theorem z_icmp_gt (C : jj_C p R s m args c cells slots cc nL own Ts dC dI ad cA A) {x y : Int32} {off : Int} (tgt : Nat) (a b : Int) (hx : x.toInt = a) (hy : y.toInt = b) (d : decode cc pc = .ok (.if_icmp .gt off, 3)) (ht : (pc : Int) + off = (tgt : Int)) (kt : b < a → jj p l e R s m args below meth c cells slots Q nL dC dI ad cA A M tgt lv st) (kf : ¬ b < a → jj p l e R s m args below meth c cells slots Q nL dC dI ad cA A M (pc + 3) lv st) : jj p l e R s m args below meth c cells slots Q nL dC dI ad cA A M pc lv (.int y :: .int x :: st) := by
  subst hx
  subst hy
  exact j_icmp_gt C tgt d ht (fun q => kt (by simpa only [Int32.lt_iff_toInt_lt, Int32.le_iff_toInt_le, ← Int32.toInt_inj, Int32.toInt_zero] using q)) (fun q => kf (by simpa only [Int32.lt_iff_toInt_lt, Int32.le_iff_toInt_le, ← Int32.toInt_inj, Int32.toInt_zero] using q))
theorem z_lcmp_gt (C : jj_C p R s m args c cells slots cc nL own Ts dC dI ad cA A) {x y : Int64} {off : Int} (tgt : Nat) (a b : Int) (hx : x.toInt = a) (hy : y.toInt = b) (d : decode cc pc = .ok (.lcmp, 1)) (d2 : decode cc (pc + 1) = .ok (.ifCond .gt off, 3)) (ht : ((pc + 1 : Nat) : Int) + off = (tgt : Int)) (kt : b < a → jj p l e R s m args below meth c cells slots Q nL dC dI ad cA A M tgt lv st) (kf : ¬ b < a → jj p l e R s m args below meth c cells slots Q nL dC dI ad cA A M (pc + 4) lv st) : jj p l e R s m args below meth c cells slots Q nL dC dI ad cA A M pc lv (.long y :: .long x :: st) := by
  subst hx
  subst hy
  exact j_lcmp C d (j_if_gt C tgt d2 ht (fun q => kt ((z_cmp x y).2.2.2.1.mp q)) (fun q => kf (fun z => q ((z_cmp x y).2.2.2.1.mpr z))))
theorem z_if_le (C : jj_C p R s m args c cells slots cc nL own Ts dC dI ad cA A) {x : Int32} {off : Int} (tgt : Nat) (a : Int) (hx : x.toInt = a) (d : decode cc pc = .ok (.ifCond .le off, 3)) (ht : (pc : Int) + off = (tgt : Int)) (kt : a ≤ 0 → jj p l e R s m args below meth c cells slots Q nL dC dI ad cA A M tgt lv st) (kf : ¬ a ≤ 0 → jj p l e R s m args below meth c cells slots Q nL dC dI ad cA A M (pc + 3) lv st) : jj p l e R s m args below meth c cells slots Q nL dC dI ad cA A M pc lv (.int x :: st) := by
  subst hx
  exact j_if_le C tgt d ht (fun q => kt (by simpa only [Int32.lt_iff_toInt_lt, Int32.le_iff_toInt_le, ← Int32.toInt_inj, Int32.toInt_zero] using q)) (fun q => kf (by simpa only [Int32.lt_iff_toInt_lt, Int32.le_iff_toInt_le, ← Int32.toInt_inj, Int32.toInt_zero] using q))
theorem z_icmp_le (C : jj_C p R s m args c cells slots cc nL own Ts dC dI ad cA A) {x y : Int32} {off : Int} (tgt : Nat) (a b : Int) (hx : x.toInt = a) (hy : y.toInt = b) (d : decode cc pc = .ok (.if_icmp .le off, 3)) (ht : (pc : Int) + off = (tgt : Int)) (kt : a ≤ b → jj p l e R s m args below meth c cells slots Q nL dC dI ad cA A M tgt lv st) (kf : ¬ a ≤ b → jj p l e R s m args below meth c cells slots Q nL dC dI ad cA A M (pc + 3) lv st) : jj p l e R s m args below meth c cells slots Q nL dC dI ad cA A M pc lv (.int y :: .int x :: st) := by
  subst hx
  subst hy
  exact j_icmp_le C tgt d ht (fun q => kt (by simpa only [Int32.lt_iff_toInt_lt, Int32.le_iff_toInt_le, ← Int32.toInt_inj, Int32.toInt_zero] using q)) (fun q => kf (by simpa only [Int32.lt_iff_toInt_lt, Int32.le_iff_toInt_le, ← Int32.toInt_inj, Int32.toInt_zero] using q))
theorem z_lcmp_le (C : jj_C p R s m args c cells slots cc nL own Ts dC dI ad cA A) {x y : Int64} {off : Int} (tgt : Nat) (a b : Int) (hx : x.toInt = a) (hy : y.toInt = b) (d : decode cc pc = .ok (.lcmp, 1)) (d2 : decode cc (pc + 1) = .ok (.ifCond .le off, 3)) (ht : ((pc + 1 : Nat) : Int) + off = (tgt : Int)) (kt : a ≤ b → jj p l e R s m args below meth c cells slots Q nL dC dI ad cA A M tgt lv st) (kf : ¬ a ≤ b → jj p l e R s m args below meth c cells slots Q nL dC dI ad cA A M (pc + 4) lv st) : jj p l e R s m args below meth c cells slots Q nL dC dI ad cA A M pc lv (.long y :: .long x :: st) := by
  subst hx
  subst hy
  exact j_lcmp C d (j_if_le C tgt d2 ht (fun q => kt ((z_cmp x y).2.1.mp q)) (fun q => kf (fun z => q ((z_cmp x y).2.1.mpr z))))
theorem z_iadd (C : jj_C p R s m args c cells slots cc nL own Ts dC dI ad cA A) {x y : Int32} (v : Int32) (hv : x + y = v) (d : decode cc pc = .ok (.iadd, 1)) (k : jj p l e R s m args below meth c cells slots Q nL dC dI ad cA A M (pc + 1) lv (.int v :: st)) : jj p l e R s m args below meth c cells slots Q nL dC dI ad cA A M pc lv (.int y :: .int x :: st) := j_iadd C d (by rw [hv]; exact k)
theorem z_isub (C : jj_C p R s m args c cells slots cc nL own Ts dC dI ad cA A) {x y : Int32} (v : Int32) (hv : x - y = v) (d : decode cc pc = .ok (.isub, 1)) (k : jj p l e R s m args below meth c cells slots Q nL dC dI ad cA A M (pc + 1) lv (.int v :: st)) : jj p l e R s m args below meth c cells slots Q nL dC dI ad cA A M pc lv (.int y :: .int x :: st) := j_isub C d (by rw [hv]; exact k)
theorem z_imul (C : jj_C p R s m args c cells slots cc nL own Ts dC dI ad cA A) {x y : Int32} (v : Int32) (hv : x * y = v) (d : decode cc pc = .ok (.imul, 1)) (k : jj p l e R s m args below meth c cells slots Q nL dC dI ad cA A M (pc + 1) lv (.int v :: st)) : jj p l e R s m args below meth c cells slots Q nL dC dI ad cA A M pc lv (.int y :: .int x :: st) := j_imul C d (by rw [hv]; exact k)
theorem z_iand (C : jj_C p R s m args c cells slots cc nL own Ts dC dI ad cA A) {x y : Int32} (v : Int32) (hv : x &&& y = v) (d : decode cc pc = .ok (.iand, 1)) (k : jj p l e R s m args below meth c cells slots Q nL dC dI ad cA A M (pc + 1) lv (.int v :: st)) : jj p l e R s m args below meth c cells slots Q nL dC dI ad cA A M pc lv (.int y :: .int x :: st) := j_iand C d (by rw [hv]; exact k)
theorem z_ior (C : jj_C p R s m args c cells slots cc nL own Ts dC dI ad cA A) {x y : Int32} (v : Int32) (hv : x ||| y = v) (d : decode cc pc = .ok (.ior, 1)) (k : jj p l e R s m args below meth c cells slots Q nL dC dI ad cA A M (pc + 1) lv (.int v :: st)) : jj p l e R s m args below meth c cells slots Q nL dC dI ad cA A M pc lv (.int y :: .int x :: st) := j_ior C d (by rw [hv]; exact k)
theorem z_ixor (C : jj_C p R s m args c cells slots cc nL own Ts dC dI ad cA A) {x y : Int32} (v : Int32) (hv : x ^^^ y = v) (d : decode cc pc = .ok (.ixor, 1)) (k : jj p l e R s m args below meth c cells slots Q nL dC dI ad cA A M (pc + 1) lv (.int v :: st)) : jj p l e R s m args below meth c cells slots Q nL dC dI ad cA A M pc lv (.int y :: .int x :: st) := j_ixor C d (by rw [hv]; exact k)
theorem z_ishl (C : jj_C p R s m args c cells slots cc nL own Ts dC dI ad cA A) {x y : Int32} (v : Int32) (hv : x <<< (y &&& 31) = v) (d : decode cc pc = .ok (.ishl, 1)) (k : jj p l e R s m args below meth c cells slots Q nL dC dI ad cA A M (pc + 1) lv (.int v :: st)) : jj p l e R s m args below meth c cells slots Q nL dC dI ad cA A M pc lv (.int y :: .int x :: st) := j_ishl C d (by rw [hv]; exact k)
theorem z_ishr (C : jj_C p R s m args c cells slots cc nL own Ts dC dI ad cA A) {x y : Int32} (v : Int32) (hv : x >>> (y &&& 31) = v) (d : decode cc pc = .ok (.ishr, 1)) (k : jj p l e R s m args below meth c cells slots Q nL dC dI ad cA A M (pc + 1) lv (.int v :: st)) : jj p l e R s m args below meth c cells slots Q nL dC dI ad cA A M pc lv (.int y :: .int x :: st) := j_ishr C d (by rw [hv]; exact k)
theorem z_iushr (C : jj_C p R s m args c cells slots cc nL own Ts dC dI ad cA A) {x y : Int32} (v : Int32) (hv : (x.toUInt32 >>> (y.toUInt32 &&& Int32.toUInt32 31)).toInt32 = v) (d : decode cc pc = .ok (.iushr, 1)) (k : jj p l e R s m args below meth c cells slots Q nL dC dI ad cA A M (pc + 1) lv (.int v :: st)) : jj p l e R s m args below meth c cells slots Q nL dC dI ad cA A M pc lv (.int y :: .int x :: st) := j_iushr C d (by rw [hv]; exact k)
theorem z_ladd (C : jj_C p R s m args c cells slots cc nL own Ts dC dI ad cA A) {x y : Int64} (v : Int64) (hv : x + y = v) (d : decode cc pc = .ok (.ladd, 1)) (k : jj p l e R s m args below meth c cells slots Q nL dC dI ad cA A M (pc + 1) lv (.long v :: st)) : jj p l e R s m args below meth c cells slots Q nL dC dI ad cA A M pc lv (.long y :: .long x :: st) := j_ladd C d (by rw [hv]; exact k)
theorem z_lsub (C : jj_C p R s m args c cells slots cc nL own Ts dC dI ad cA A) {x y : Int64} (v : Int64) (hv : x - y = v) (d : decode cc pc = .ok (.lsub, 1)) (k : jj p l e R s m args below meth c cells slots Q nL dC dI ad cA A M (pc + 1) lv (.long v :: st)) : jj p l e R s m args below meth c cells slots Q nL dC dI ad cA A M pc lv (.long y :: .long x :: st) := j_lsub C d (by rw [hv]; exact k)
theorem z_lmul (C : jj_C p R s m args c cells slots cc nL own Ts dC dI ad cA A) {x y : Int64} (v : Int64) (hv : x * y = v) (d : decode cc pc = .ok (.lmul, 1)) (k : jj p l e R s m args below meth c cells slots Q nL dC dI ad cA A M (pc + 1) lv (.long v :: st)) : jj p l e R s m args below meth c cells slots Q nL dC dI ad cA A M pc lv (.long y :: .long x :: st) := j_lmul C d (by rw [hv]; exact k)
theorem z_land (C : jj_C p R s m args c cells slots cc nL own Ts dC dI ad cA A) {x y : Int64} (v : Int64) (hv : x &&& y = v) (d : decode cc pc = .ok (.land, 1)) (k : jj p l e R s m args below meth c cells slots Q nL dC dI ad cA A M (pc + 1) lv (.long v :: st)) : jj p l e R s m args below meth c cells slots Q nL dC dI ad cA A M pc lv (.long y :: .long x :: st) := j_land C d (by rw [hv]; exact k)
theorem z_lor (C : jj_C p R s m args c cells slots cc nL own Ts dC dI ad cA A) {x y : Int64} (v : Int64) (hv : x ||| y = v) (d : decode cc pc = .ok (.lor, 1)) (k : jj p l e R s m args below meth c cells slots Q nL dC dI ad cA A M (pc + 1) lv (.long v :: st)) : jj p l e R s m args below meth c cells slots Q nL dC dI ad cA A M pc lv (.long y :: .long x :: st) := j_lor C d (by rw [hv]; exact k)
theorem z_idiv (C : jj_C p R s m args c cells slots cc nL own Ts dC dI ad cA A) {x y : Int32} (v : Int32) (hv : x / y = v) (hne : ¬ y = 0) (d : decode cc pc = .ok (.idiv, 1)) (k : jj p l e R s m args below meth c cells slots Q nL dC dI ad cA A M (pc + 1) lv (.int v :: st)) : jj p l e R s m args below meth c cells slots Q nL dC dI ad cA A M pc lv (.int y :: .int x :: st) := j_idiv C d hne (by rw [hv]; exact k)
theorem z_irem (C : jj_C p R s m args c cells slots cc nL own Ts dC dI ad cA A) {x y : Int32} (v : Int32) (hv : x - x / y * y = v) (hne : ¬ y = 0) (d : decode cc pc = .ok (.irem, 1)) (k : jj p l e R s m args below meth c cells slots Q nL dC dI ad cA A M (pc + 1) lv (.int v :: st)) : jj p l e R s m args below meth c cells slots Q nL dC dI ad cA A M pc lv (.int y :: .int x :: st) := j_irem C d hne (by rw [hv]; exact k)
theorem z_ldiv (C : jj_C p R s m args c cells slots cc nL own Ts dC dI ad cA A) {x y : Int64} (v : Int64) (hv : x / y = v) (hne : ¬ y = 0) (d : decode cc pc = .ok (.ldiv, 1)) (k : jj p l e R s m args below meth c cells slots Q nL dC dI ad cA A M (pc + 1) lv (.long v :: st)) : jj p l e R s m args below meth c cells slots Q nL dC dI ad cA A M pc lv (.long y :: .long x :: st) := j_ldiv C d hne (by rw [hv]; exact k)
theorem z_lrem (C : jj_C p R s m args c cells slots cc nL own Ts dC dI ad cA A) {x y : Int64} (v : Int64) (hv : x - x / y * y = v) (hne : ¬ y = 0) (d : decode cc pc = .ok (.lrem, 1)) (k : jj p l e R s m args below meth c cells slots Q nL dC dI ad cA A M (pc + 1) lv (.long v :: st)) : jj p l e R s m args below meth c cells slots Q nL dC dI ad cA A M pc lv (.long y :: .long x :: st) := j_lrem C d hne (by rw [hv]; exact k)
theorem z_i2l (C : jj_C p R s m args c cells slots cc nL own Ts dC dI ad cA A) {x : Int32} (v : Int64) (hv : x.toInt64 = v) (d : decode cc pc = .ok (.i2l, 1)) (k : jj p l e R s m args below meth c cells slots Q nL dC dI ad cA A M (pc + 1) lv (.long v :: st)) : jj p l e R s m args below meth c cells slots Q nL dC dI ad cA A M pc lv (.int x :: st) := j_i2l C d (by rw [hv]; exact k)
theorem z_l2i (C : jj_C p R s m args c cells slots cc nL own Ts dC dI ad cA A) {x : Int64} (v : Int32) (hv : x.toInt32 = v) (d : decode cc pc = .ok (.l2i, 1)) (k : jj p l e R s m args below meth c cells slots Q nL dC dI ad cA A M (pc + 1) lv (.int v :: st)) : jj p l e R s m args below meth c cells slots Q nL dC dI ad cA A M pc lv (.long x :: st) := j_l2i C d (by rw [hv]; exact k)
theorem z_i2b (C : jj_C p R s m args c cells slots cc nL own Ts dC dI ad cA A) {x : Int32} (v : Int32) (hv : x.toInt8.toInt32 = v) (d : decode cc pc = .ok (.i2b, 1)) (k : jj p l e R s m args below meth c cells slots Q nL dC dI ad cA A M (pc + 1) lv (.int v :: st)) : jj p l e R s m args below meth c cells slots Q nL dC dI ad cA A M pc lv (.int x :: st) := j_i2b C d (by rw [hv]; exact k)
theorem z_i2s (C : jj_C p R s m args c cells slots cc nL own Ts dC dI ad cA A) {x : Int32} (v : Int32) (hv : x.toInt16.toInt32 = v) (d : decode cc pc = .ok (.i2s, 1)) (k : jj p l e R s m args below meth c cells slots Q nL dC dI ad cA A M (pc + 1) lv (.int v :: st)) : jj p l e R s m args below meth c cells slots Q nL dC dI ad cA A M pc lv (.int x :: st) := j_i2s C d (by rw [hv]; exact k)
theorem z_ineg (C : jj_C p R s m args c cells slots cc nL own Ts dC dI ad cA A) {x : Int32} (v : Int32) (hv : -x = v) (d : decode cc pc = .ok (.ineg, 1)) (k : jj p l e R s m args below meth c cells slots Q nL dC dI ad cA A M (pc + 1) lv (.int v :: st)) : jj p l e R s m args below meth c cells slots Q nL dC dI ad cA A M pc lv (.int x :: st) := j_ineg C d (by rw [hv]; exact k)
theorem z_i2c (C : jj_C p R s m args c cells slots cc nL own Ts dC dI ad cA A) {x : Int32} (v : Int32) (hv : (x.toUInt32 % 65536).toInt32 = v) (d : decode cc pc = .ok (.i2c, 1)) (k : jj p l e R s m args below meth c cells slots Q nL dC dI ad cA A M (pc + 1) lv (.int v :: st)) : jj p l e R s m args below meth c cells slots Q nL dC dI ad cA A M pc lv (.int x :: st) := j_i2c C d (by rw [hv]; exact k)
theorem z_lshl (C : jj_C p R s m args c cells slots cc nL own Ts dC dI ad cA A) {x : Int64} {y : Int32} (v : Int64) (hv : x <<< (y.toInt64 &&& 63) = v) (d : decode cc pc = .ok (.lshl, 1)) (k : jj p l e R s m args below meth c cells slots Q nL dC dI ad cA A M (pc + 1) lv (.long v :: st)) : jj p l e R s m args below meth c cells slots Q nL dC dI ad cA A M pc lv (.int y :: .long x :: st) := j_lshl C d (by rw [hv]; exact k)
theorem z_lshr (C : jj_C p R s m args c cells slots cc nL own Ts dC dI ad cA A) {x : Int64} {y : Int32} (v : Int64) (hv : x >>> (y.toInt64 &&& 63) = v) (d : decode cc pc = .ok (.lshr, 1)) (k : jj p l e R s m args below meth c cells slots Q nL dC dI ad cA A M (pc + 1) lv (.long v :: st)) : jj p l e R s m args below meth c cells slots Q nL dC dI ad cA A M pc lv (.int y :: .long x :: st) := j_lshr C d (by rw [hv]; exact k)
theorem z_lcmp (C : jj_C p R s m args c cells slots cc nL own Ts dC dI ad cA A) {x y : Int64} (v : Int32) (hv : lg_cmp x y = v) (d : decode cc pc = .ok (.lcmp, 1)) (k : jj p l e R s m args below meth c cells slots Q nL dC dI ad cA A M (pc + 1) lv (.int v :: st)) : jj p l e R s m args below meth c cells slots Q nL dC dI ad cA A M pc lv (.long y :: .long x :: st) := j_lcmp C d (by rw [hv]; exact k)
theorem j_mmin (C : jj_C p R s m args c cells slots cc nL own Ts dC dI ad cA A) {x y : Int32} {index : Nat} (v : Int32) (hv : (if y < x then y else x) = v) (h1 : Cond.methodLink own index Lib.Math.min.name ∈ Ts) (h2 : Cond.static Lib.Math.min.name ∈ Ts) (h3 : Cond.initialized "java/lang/Math" ∈ Ts) (h4 : Cond.code Lib.Math.min.name Lib.Math.min.code 2 (some .int) ∈ Ts) (hf : 1 ≤ R.frames) (hlo : (st.map fun v => v.category).sum + 13 ≤ R.locals) (d : decode cc pc = .ok (.invokestatic index, 3)) (k : jj p l e R s m args below meth c cells slots Q nL dC dI ad cA A M (pc + 3) lv (.int v :: st)) : jj p l e R s m args below meth c cells slots Q nL dC dI ad cA A M pc lv (.int y :: .int x :: st) := by
  intro H locs ls hP hS hl
  have hT := C.1.2.2.2.2
  exact va_mmin C.1.1 C.1.2.1 (by rw [C.1.2.2.1, hl.1]) C.1.2.2.2.1 (hT _ h1) (hT _ h2) (hT _ h3) (hT _ h4) hf hlo C.2.2.2.2.2.1 C.2.2.2.2.2.2.1 d (by rw [hv]; exact k H locs ls hP hS hl)
theorem j_mmax (C : jj_C p R s m args c cells slots cc nL own Ts dC dI ad cA A) {x y : Int32} {index : Nat} (v : Int32) (hv : (if x < y then y else x) = v) (h1 : Cond.methodLink own index Lib.Math.max.name ∈ Ts) (h2 : Cond.static Lib.Math.max.name ∈ Ts) (h3 : Cond.initialized "java/lang/Math" ∈ Ts) (h4 : Cond.code Lib.Math.max.name Lib.Math.max.code 2 (some .int) ∈ Ts) (hf : 1 ≤ R.frames) (hlo : (st.map fun v => v.category).sum + 13 ≤ R.locals) (d : decode cc pc = .ok (.invokestatic index, 3)) (k : jj p l e R s m args below meth c cells slots Q nL dC dI ad cA A M (pc + 3) lv (.int v :: st)) : jj p l e R s m args below meth c cells slots Q nL dC dI ad cA A M pc lv (.int y :: .int x :: st) := by
  intro H locs ls hP hS hl
  have hT := C.1.2.2.2.2
  exact va_mmax C.1.1 C.1.2.1 (by rw [C.1.2.2.1, hl.1]) C.1.2.2.2.1 (hT _ h1) (hT _ h2) (hT _ h3) (hT _ h4) hf hlo C.2.2.2.2.2.1 C.2.2.2.2.2.2.1 d (by rw [hv]; exact k H locs ls hP hS hl)
theorem z_noI {i k : Nat} {v : Int32} (h : M.1 i k = v) (kk : jj p l e R s m args below meth c cells slots Q nL dC dI ad cA A M pc lv st) : jj p l e R s m args below meth c cells slots Q nL dC dI ad cA A (wI M i k v) pc lv st := by rw [wI_e h]; exact kk
theorem z_noJ {i k : Nat} {v : Int64} (h : M.2.1 i k = v) (kk : jj p l e R s m args below meth c cells slots Q nL dC dI ad cA A M pc lv st) : jj p l e R s m args below meth c cells slots Q nL dC dI ad cA A (wJ M i k v) pc lv st := by rw [wJ_e h]; exact kk
theorem z_noP {i k : Nat} {v : Nat} (h : M.2.2 i k = v) (kk : jj p l e R s m args below meth c cells slots Q nL dC dI ad cA A M pc lv st) : jj p l e R s m args below meth c cells slots Q nL dC dI ad cA A (wP M i k v) pc lv st := by rw [wP_e h]; exact kk
end JZ
end
section
section JX
variable {p : Program} {l : Launch} {e : Env} {R : Room} {s : State} {m : MethodId} {args : Array Value} {below : List Frame} {meth : Method} {c : Code} {cells slots : Nat} {Q : State → Prop} {cc : ByteArray} {nL : Nat} {own : String} {Ts : List Cond} {dC : Nat → ClassId} {dI : Nat → Nat → Nat} {ad : Nat → Nat} {cA : Nat → ClassId} {A : Nat → Prop} {M : mm_M} {pc : Nat} {lv : List (Nat × Value)} {st : List Value}
theorem x_iald (C : jj_C p R s m args c cells slots cc nL own Ts dC dI ad cA A) {i : Nat} {x : Int32} (k n : Nat) (v : Int32) (hi : i < mm_N) (hk : mm_kc i = 100) (hx : x = nI k) (hn : mm_kn i = n) (hlt : k < n) (hs : n < 2 ^ 31) (hv : M.1 i k = v) (d : decode cc pc = .ok (.iaload, 1)) (kk : jj p l e R s m args below meth c cells slots Q nL dC dI ad cA A M (pc + 1) lv (.int v :: st)) : jj p l e R s m args below meth c cells slots Q nL dC dI ad cA A M pc lv (.int x :: .ref (ad i) :: st) := by
  subst hx
  subst hn
  exact j_iald C v hi hk (vp_in_nI hlt hs) (by rw [nI_clamp (by omega)]; exact hv) d kk
theorem x_zald (C : jj_C p R s m args c cells slots cc nL own Ts dC dI ad cA A) {i : Nat} {x : Int32} (k n : Nat) (v : Int32) (hi : i < mm_N) (hk : mm_kc i = 101) (hx : x = nI k) (hn : mm_kn i = n) (hlt : k < n) (hs : n < 2 ^ 31) (hv : M.1 i k = v) (d : decode cc pc = .ok (.baload, 1)) (kk : jj p l e R s m args below meth c cells slots Q nL dC dI ad cA A M (pc + 1) lv (.int v :: st)) : jj p l e R s m args below meth c cells slots Q nL dC dI ad cA A M pc lv (.int x :: .ref (ad i) :: st) := by
  subst hx
  subst hn
  exact j_zald C v hi hk (vp_in_nI hlt hs) (by rw [nI_clamp (by omega)]; exact hv) d kk
theorem x_lald (C : jj_C p R s m args c cells slots cc nL own Ts dC dI ad cA A) {i : Nat} {x : Int32} (k n : Nat) (v : Int64) (hi : i < mm_N) (hk : mm_kc i = 102) (hx : x = nI k) (hn : mm_kn i = n) (hlt : k < n) (hs : n < 2 ^ 31) (hv : M.2.1 i k = v) (d : decode cc pc = .ok (.laload, 1)) (kk : jj p l e R s m args below meth c cells slots Q nL dC dI ad cA A M (pc + 1) lv (.long v :: st)) : jj p l e R s m args below meth c cells slots Q nL dC dI ad cA A M pc lv (.int x :: .ref (ad i) :: st) := by
  subst hx
  subst hn
  exact j_lald C v hi hk (vp_in_nI hlt hs) (by rw [nI_clamp (by omega)]; exact hv) d kk
theorem x_aald (C : jj_C p R s m args c cells slots cc nL own Ts dC dI ad cA A) {i : Nat} {x : Int32} (k n : Nat) (v : Nat) (hi : i < mm_N) (hk : 103 ≤ mm_kc i) (hx : x = nI k) (hn : mm_kn i = n) (hlt : k < n) (hs : n < 2 ^ 31) (hv : M.2.2 i k = v) (d : decode cc pc = .ok (.aaload, 1)) (kk : jj p l e R s m args below meth c cells slots Q nL dC dI ad cA A M (pc + 1) lv (.ref (ad v) :: st)) : jj p l e R s m args below meth c cells slots Q nL dC dI ad cA A M pc lv (.int x :: .ref (ad i) :: st) := by
  subst hx
  subst hn
  exact j_aald C v hi hk (vp_in_nI hlt hs) (by rw [nI_clamp (by omega)]; exact hv) d kk
theorem x_iast (C : jj_C p R s m args c cells slots cc nL own Ts dC dI ad cA A) {i : Nat} {x : Int32} {v : Int32} (k n : Nat) (hi : i < mm_N) (hk : mm_kc i = 100) (hx : x = nI k) (hn : mm_kn i = n) (hlt : k < n) (hs : n < 2 ^ 31) (d : decode cc pc = .ok (.iastore, 1)) (kk : jj p l e R s m args below meth c cells slots Q nL dC dI ad cA A (wI M i k v) (pc + 1) lv st) : jj p l e R s m args below meth c cells slots Q nL dC dI ad cA A M pc lv (.int v :: .int x :: .ref (ad i) :: st) := by
  subst hx
  subst hn
  exact j_iast C hi hk (vp_in_nI hlt hs) d (by rw [nI_clamp (by omega)]; exact kk)
theorem x_zast (C : jj_C p R s m args c cells slots cc nL own Ts dC dI ad cA A) {i : Nat} {x : Int32} {v : Int32} (k n : Nat) (hi : i < mm_N) (hk : mm_kc i = 101) (hx : x = nI k) (hn : mm_kn i = n) (hlt : k < n) (hs : n < 2 ^ 31) (hb : vp_nar .boolean v = v) (d : decode cc pc = .ok (.bastore, 1)) (kk : jj p l e R s m args below meth c cells slots Q nL dC dI ad cA A (wI M i k v) (pc + 1) lv st) : jj p l e R s m args below meth c cells slots Q nL dC dI ad cA A M pc lv (.int v :: .int x :: .ref (ad i) :: st) := by
  subst hx
  subst hn
  exact j_zast C hi hk (vp_in_nI hlt hs) hb d (by rw [nI_clamp (by omega)]; exact kk)
theorem x_last (C : jj_C p R s m args c cells slots cc nL own Ts dC dI ad cA A) {i : Nat} {x : Int32} {v : Int64} (k n : Nat) (hi : i < mm_N) (hk : mm_kc i = 102) (hx : x = nI k) (hn : mm_kn i = n) (hlt : k < n) (hs : n < 2 ^ 31) (d : decode cc pc = .ok (.lastore, 1)) (kk : jj p l e R s m args below meth c cells slots Q nL dC dI ad cA A (wJ M i k v) (pc + 1) lv st) : jj p l e R s m args below meth c cells slots Q nL dC dI ad cA A M pc lv (.long v :: .int x :: .ref (ad i) :: st) := by
  subst hx
  subst hn
  exact j_last C hi hk (vp_in_nI hlt hs) d (by rw [nI_clamp (by omega)]; exact kk)
end JX
theorem z_n31 {x : Int32} {a b : Int} (ha : a ≤ x.toInt) (hb : x.toInt ≤ b) (h0 : 0 ≤ a) : ∃ j : Nat, a ≤ (j : Int) ∧ (j : Int) ≤ b ∧ x = nI j := by
  have hx : ¬ x < 0 := by rw [Int32.lt_iff_toInt_lt, Int32.toInt_zero]; omega
  obtain ⟨j, h1, h2⟩ := nI_of hx
  subst h2
  rw [nI_toInt h1] at ha hb
  exact ⟨j, ha, hb, rfl⟩
theorem z_sp {x : Int32} {b : Int} (ha : 0 ≤ x.toInt) (hb : x.toInt ≤ b) : ∃ j : Nat, (j : Int) ≤ b ∧ x = nI j := by
  obtain ⟨j, -, h2, h3⟩ := z_n31 ha hb (Int.le_refl 0)
  exact ⟨j, h2, h3⟩
end
section
def m0P_l : List (List Nat) := [[1, 0, 0, 0, 2, 7, 12, 15, 18, 50, 59, 78, 81, 87, 88, 95], [], [0, 0, 3, 4, 5, 6], [], [], [], [], [0, 0, 8, 9, 10, 11], [], [], [], [], [0, 13, 14], [], [], [0, 16, 17], [], [], [19], [20, 23, 26, 29, 32, 35, 38, 41, 44, 47], [0, 21, 22], [], [], [0, 24, 25], [], [], [0, 27, 28], [], [], [0, 30, 31], [], [], [0, 33, 34], [], [], [0, 36, 37], [], [], [0, 39, 40], [], [], [0, 42, 43], [], [], [0, 45, 46], [], [], [0, 48, 49], [], [], [51, 53, 55, 57], [52], [], [54], [], [56], [], [58], [], [60, 69], [0, 61, 66], [0, 0, 62, 63, 64, 65], [], [], [], [], [0, 67, 68], [], [], [0, 70, 75], [0, 0, 71, 72, 73, 74], [], [], [], [], [0, 76, 77], [], [], [79, 80, 0, 7, 15], [], [], [82, 83, 84, 85, 86, 2], [], [], [], [], [], [81], [81, 89, 90, 91, 92, 93, 94, 0, 0, 2, 12], [], [], [], [], [], [], [88, 96, 97], [], [], [0, 99, 100, 101, 102, 0, 0, 0, 0, 0, 0, 0, 0, 0, 0, 103, 104, 105, 0, 106, 107, 108, 109, 110, 111, 112, 0, 113, 114, 115, 116, 117], [], [], [], [], [], [], [], [], [], [], [], [], [], [], [], [], [], [], []]
def M0 : mm_M := (fun i k => (if i = 0 then (if k = 3 then (-1) else 0) else (if i = 51 then (if k = 2 then (-1) else 0) else (if i = 53 then (if k = 2 then (-1) else 0) else (if i = 55 then (if k = 2 then (-1) else 0) else (if i = 57 then (if k = 2 then (-1) else 0) else (if i = 78 then (if k = 6 then (-1) else 0) else (if i = 98 then (if k = 14 then (-1) else 0) else (if i = 115 then (if k = 0 then (-1) else (if k = 1 then (-1) else (if k = 2 then (-1) else (if k = 3 then (-1) else 0)))) else 0)))))))), fun i k => (if i = 88 then (if k = 7 then 1 else 0) else 0), fun i k => (m0P_l.getD i []).getD k 0)
theorem m0_t1 : M0.1 0 3 = -1 := rfl
theorem m0_t2 : M0.2.2 0 6 = 12 := rfl
theorem m0_t3 (k : Nat) : M0.1 99 k = 0 := rfl
theorem m0_t4 : (wI M0 99 5 7).1 99 5 = 7 := rfl
theorem m0_t5 (k : Nat) : (wI M0 98 5 7).1 99 k = 0 := rfl
theorem m0_t6 : mm_kc 12 = 8 := rfl
theorem m0_t7 : (26 : Int32) = nI 26 := rfl
theorem m0_t8 (i : Nat) : nI i + 26 = nI (i + 26) := nI_add i 26
theorem m0_t9 (i : Nat) : nI i + Int32.ofInt 1 = nI (i + 1) := nI_1 i
end
