section
set_option maxHeartbeats 4000000 in
set_option maxRecDepth 100000 in
theorem lw_body {p : Program} {l : Launch} {e : Env} {s : State} {m : MethodId} {below : List Frame} {meth : Method} {c : Code} {b L : Nat} {xs : Nat → Int32} {Q : State → Prop} {dC : Nat → ClassId} {dI : Nat → Nat → Nat} {ad : Nat → Nat} {cA : Nat → ClassId} {A : Nat → Prop} (Cb : jj_C p room_1 s m #[Value.ref b] c 118 20643 code 4 RL [] dC dI ad cA A) (hts : ∀ w ∈ lw_tbl, w.before #[Value.ref b] s = true) (hL : L ≤ 3072) (hX : va_X b L xs s s.heap) (hbl : b < s.heap.size) (hbA : ¬ A b) (hret : ∀ (M : mm_M) (lv : List (Nat × Value)), jj p l e room_1 s m #[Value.ref b] below meth c 118 20643 Q 4 dC dI ad cA A M 1473 lv [.int 1]) : ∀ (n : Nat) (i : Int) (M : mm_M), (0 ≤ i ∧ i ≤ 3078 ∧ 3078 - i < n) → LJ i M → jj p l e room_1 s m #[Value.ref b] below meth c 118 20643 Q 4 dC dI ad cA A M 18 [(3, .int (sI i)), (2, .ref (ad 98)), (1, .ref (ad 0)), (0, .ref b)] [] := by
  intro n
  induction n with
  | zero => intro i M h; omega
  | succ n ih =>
    intro i M h hI
    refine j_iload_n Cb 0 3 dL_law_18 rfl rfl ?_
    refine j_aload_n Cb 3 0 dL_law_19 rfl rfl ?_
    refine j_slen Cb hX hbl hbA dL_law_20 ?_
    refine j_bipush Cb 6 dL_law_21 (by decide) ?_
    refine j_isub Cb dL_law_23 ?_
    refine z_icmp_gt Cb 1472 i ((L : Int) - 6) (sI_t (by omega)) (pk_sub_toInt (a := L) (b := 6) (by omega) (by decide)) dL_law_24 (by decide) (fun h1 => ?_) (fun h1 => ?_)
    · refine j_iconst Cb 1 dL_law_1472 (by decide) ?_
      exact hret _ _
    · have hfin : ∀ M : mm_M, LJ (i + 6) M → jj p l e room_1 s m #[Value.ref b] below meth c 118 20643 Q 4 dC dI ad cA A M 1466 [(3, .int (sI i)), (2, .ref (ad 98)), (1, .ref (ad 0)), (0, .ref b)] [] := by
        intro M hI
        refine y_iinc Cb 0 [(3, .int (sI (i + 6))), (2, .ref (ad 98)), (1, .ref (ad 0)), (0, .ref b)] dL_law_1466 rfl (by decide) rfl ?_
        refine j_goto Cb 18 dL_law_1469 (by decide) ?_
        exact ih (i + 6) M (by omega) hI
      refine j_aload_n Cb 3 0 dL_law_27 rfl rfl ?_
      refine j_iload_n Cb 0 3 dL_law_28 rfl rfl ?_
      refine y_sldx Cb hX hbl hbA hL (by omega) dL_law_29 ?_
      rw [sI_o]
      refine j_bipush Cb 63 dL_law_30 (by decide) ?_
      refine j_iand Cb dL_law_32 ?_
      obtain ⟨j, hj, ej⟩ := pk_andE (xs i.toNat) (m := 63) 6 (by decide)
      rw [ej]
      by_cases h44 : j < 44
      · rcases (show j = 0 ∨ j = 1 ∨ j = 2 ∨ j = 3 ∨ j = 4 ∨ j = 5 ∨ j = 6 ∨ j = 7 ∨ j = 8 ∨ j = 9 ∨ j = 10 ∨ j = 11 ∨ j = 12 ∨ j = 13 ∨ j = 14 ∨ j = 15 ∨ j = 16 ∨ j = 17 ∨ j = 18 ∨ j = 19 ∨ j = 20 ∨ j = 21 ∨ j = 22 ∨ j = 23 ∨ j = 24 ∨ j = 25 ∨ j = 26 ∨ j = 27 ∨ j = 28 ∨ j = 29 ∨ j = 30 ∨ j = 31 ∨ j = 32 ∨ j = 33 ∨ j = 34 ∨ j = 35 ∨ j = 36 ∨ j = 37 ∨ j = 38 ∨ j = 39 ∨ j = 40 ∨ j = 41 ∨ j = 42 ∨ j = 43 by omega) with rfl | rfl | rfl | rfl | rfl | rfl | rfl | rfl | rfl | rfl | rfl | rfl | rfl | rfl | rfl | rfl | rfl | rfl | rfl | rfl | rfl | rfl | rfl | rfl | rfl | rfl | rfl | rfl | rfl | rfl | rfl | rfl | rfl | rfl | rfl | rfl | rfl | rfl | rfl | rfl | rfl | rfl | rfl | rfl
        · refine j_tableIn Cb (off := 191) 224 dL_law_33 (by decide) (by decide) (by decide) (by decide) ?_
          exact lw_op0 Cb hts hL hX hbl hbA (by omega) hfin M hI
        · refine j_tableIn Cb (off := 254) 287 dL_law_33 (by decide) (by decide) (by decide) (by decide) ?_
          exact lw_op1 Cb hts hL hX hbl hbA (by omega) hfin M hI
        · refine j_tableIn Cb (off := 277) 310 dL_law_33 (by decide) (by decide) (by decide) (by decide) ?_
          exact lw_op2 Cb hts hL hX hbl hbA (by omega) hfin M hI
        · refine j_tableIn Cb (off := 300) 333 dL_law_33 (by decide) (by decide) (by decide) (by decide) ?_
          exact lw_op3 Cb hts hL hX hbl hbA (by omega) hfin M hI
        · refine j_tableIn Cb (off := 333) 366 dL_law_33 (by decide) (by decide) (by decide) (by decide) ?_
          exact lw_op4 Cb hts hL hX hbl hbA (by omega) hfin M hI
        · refine j_tableIn Cb (off := 366) 399 dL_law_33 (by decide) (by decide) (by decide) (by decide) ?_
          exact lw_op5 Cb hts hL hX hbl hbA (by omega) hfin M hI
        · refine j_tableIn Cb (off := 399) 432 dL_law_33 (by decide) (by decide) (by decide) (by decide) ?_
          exact lw_op6 Cb hts hL hX hbl hbA (by omega) hfin M hI
        · refine j_tableIn Cb (off := 422) 455 dL_law_33 (by decide) (by decide) (by decide) (by decide) ?_
          exact lw_op7 Cb hts hL hX hbl hbA (by omega) hfin M hI
        · refine j_tableIn Cb (off := 445) 478 dL_law_33 (by decide) (by decide) (by decide) (by decide) ?_
          exact lw_op8 Cb hts hL hX hbl hbA (by omega) hfin M hI
        · refine j_tableIn Cb (off := 468) 501 dL_law_33 (by decide) (by decide) (by decide) (by decide) ?_
          exact lw_op9 Cb hts hL hX hbl hbA (by omega) hfin M hI
        · refine j_tableIn Cb (off := 491) 524 dL_law_33 (by decide) (by decide) (by decide) (by decide) ?_
          exact lw_op10 Cb hts hL hX hbl hbA (by omega) hfin M hI
        · refine j_tableIn Cb (off := 524) 557 dL_law_33 (by decide) (by decide) (by decide) (by decide) ?_
          exact lw_op11 Cb hts hL hX hbl hbA (by omega) hfin M hI
        · refine j_tableIn Cb (off := 557) 590 dL_law_33 (by decide) (by decide) (by decide) (by decide) ?_
          exact lw_op12 Cb hts hL hX hbl hbA (by omega) hfin M hI
        · refine j_tableIn Cb (off := 580) 613 dL_law_33 (by decide) (by decide) (by decide) (by decide) ?_
          exact lw_op13 Cb hts hL hX hbl hbA (by omega) hfin M hI
        · refine j_tableIn Cb (off := 603) 636 dL_law_33 (by decide) (by decide) (by decide) (by decide) ?_
          exact lw_op14 Cb hts hL hX hbl hbA (by omega) hfin M hI
        · refine j_tableIn Cb (off := 636) 669 dL_law_33 (by decide) (by decide) (by decide) (by decide) ?_
          exact lw_op15 Cb hts hL hX hbl hbA (by omega) hfin M hI
        · refine j_tableIn Cb (off := 659) 692 dL_law_33 (by decide) (by decide) (by decide) (by decide) ?_
          exact lw_op16 Cb hts hL hX hbl hbA (by omega) hfin M hI
        · refine j_tableIn Cb (off := 692) 725 dL_law_33 (by decide) (by decide) (by decide) (by decide) ?_
          exact lw_op17 Cb hts hL hX hbl hbA (by omega) hfin M hI
        · refine j_tableIn Cb (off := 705) 738 dL_law_33 (by decide) (by decide) (by decide) (by decide) ?_
          exact lw_op18 Cb hts hL hX hbl hbA (by omega) hfin M hI
        · refine j_tableIn Cb (off := 728) 761 dL_law_33 (by decide) (by decide) (by decide) (by decide) ?_
          exact lw_op19 Cb hts hL hX hbl hbA (by omega) hfin M hI
        · refine j_tableIn Cb (off := 751) 784 dL_law_33 (by decide) (by decide) (by decide) (by decide) ?_
          exact lw_op20 Cb hts hL hX hbl hbA (by omega) hfin M hI
        · refine j_tableIn Cb (off := 764) 797 dL_law_33 (by decide) (by decide) (by decide) (by decide) ?_
          exact lw_op21 Cb hts hL hX hbl hbA (by omega) hfin M hI
        · refine j_tableIn Cb (off := 777) 810 dL_law_33 (by decide) (by decide) (by decide) (by decide) ?_
          exact lw_op22 Cb hts hL hX hbl hbA (by omega) hfin M hI
        · refine j_tableIn Cb (off := 790) 823 dL_law_33 (by decide) (by decide) (by decide) (by decide) ?_
          exact lw_op23 Cb hts hL hX hbl hbA (by omega) hfin M hI
        · refine j_tableIn Cb (off := 803) 836 dL_law_33 (by decide) (by decide) (by decide) (by decide) ?_
          exact lw_op24 Cb hts hL hX hbl hbA (by omega) hfin M hI
        · refine j_tableIn Cb (off := 836) 869 dL_law_33 (by decide) (by decide) (by decide) (by decide) ?_
          exact lw_op25 Cb hts hL hX hbl hbA (by omega) hfin M hI
        · refine j_tableIn Cb (off := 859) 892 dL_law_33 (by decide) (by decide) (by decide) (by decide) ?_
          exact lw_op26 Cb hts hL hX hbl hbA (by omega) hfin M hI
        · refine j_tableIn Cb (off := 902) 935 dL_law_33 (by decide) (by decide) (by decide) (by decide) ?_
          exact lw_op27 Cb hts hL hX hbl hbA (by omega) hfin M hI
        · refine j_tableIn Cb (off := 925) 958 dL_law_33 (by decide) (by decide) (by decide) (by decide) ?_
          exact lw_op28 Cb hts hL hX hbl hbA (by omega) hfin M hI
        · refine j_tableIn Cb (off := 968) 1001 dL_law_33 (by decide) (by decide) (by decide) (by decide) ?_
          exact lw_op29 Cb hts hL hX hbl hbA (by omega) hfin M hI
        · refine j_tableIn Cb (off := 1011) 1044 dL_law_33 (by decide) (by decide) (by decide) (by decide) ?_
          exact lw_op30 Cb hts hL hX hbl hbA (by omega) hfin M hI
        · refine j_tableIn Cb (off := 1034) 1067 dL_law_33 (by decide) (by decide) (by decide) (by decide) ?_
          exact lw_op31 Cb hts hL hX hbl hbA (by omega) hfin M hI
        · refine j_tableIn Cb (off := 1067) 1100 dL_law_33 (by decide) (by decide) (by decide) (by decide) ?_
          exact lw_op32 Cb hts hL hX hbl hbA (by omega) hfin M hI
        · refine j_tableIn Cb (off := 1100) 1133 dL_law_33 (by decide) (by decide) (by decide) (by decide) ?_
          exact lw_op33 Cb hts hL hX hbl hbA (by omega) hfin M hI
        · refine j_tableIn Cb (off := 1123) 1156 dL_law_33 (by decide) (by decide) (by decide) (by decide) ?_
          exact lw_op34 Cb hts hL hX hbl hbA (by omega) hfin M hI
        · refine j_tableIn Cb (off := 1146) 1179 dL_law_33 (by decide) (by decide) (by decide) (by decide) ?_
          exact lw_op35 Cb hts hL hX hbl hbA (by omega) hfin M hI
        · refine j_tableIn Cb (off := 1169) 1202 dL_law_33 (by decide) (by decide) (by decide) (by decide) ?_
          exact lw_op36 Cb hts hL hX hbl hbA (by omega) hfin M hI
        · refine j_tableIn Cb (off := 1192) 1225 dL_law_33 (by decide) (by decide) (by decide) (by decide) ?_
          exact lw_op37 Cb hts hL hX hbl hbA (by omega) hfin M hI
        · refine j_tableIn Cb (off := 1225) 1258 dL_law_33 (by decide) (by decide) (by decide) (by decide) ?_
          exact lw_op38 Cb hts hL hX hbl hbA (by omega) hfin M hI
        · refine j_tableIn Cb (off := 1268) 1301 dL_law_33 (by decide) (by decide) (by decide) (by decide) ?_
          exact lw_op39 Cb hts hL hX hbl hbA (by omega) hfin M hI
        · refine j_tableIn Cb (off := 1341) 1374 dL_law_33 (by decide) (by decide) (by decide) (by decide) ?_
          exact lw_op40 Cb hts hL hX hbl hbA (by omega) hfin M hI
        · refine j_tableIn Cb (off := 1364) 1397 dL_law_33 (by decide) (by decide) (by decide) (by decide) ?_
          exact lw_op41 Cb hts hL hX hbl hbA (by omega) hfin M hI
        · refine j_tableIn Cb (off := 1387) 1420 dL_law_33 (by decide) (by decide) (by decide) (by decide) ?_
          exact lw_op42 Cb hts hL hX hbl hbA (by omega) hfin M hI
        · refine j_tableIn Cb (off := 1410) 1443 dL_law_33 (by decide) (by decide) (by decide) (by decide) ?_
          exact lw_op43 Cb hts hL hX hbl hbA (by omega) hfin M hI
      · refine j_tableOut Cb 1466 dL_law_33 (Or.inr (by rw [nI_toInt (by omega)]; omega)) (by decide) ?_
        exact hfin M (lj_up hI)
end
section
/-! THE FRESH MEMORY keeps what holds between the calls -/
theorem bk_0 (j : Nat) : (bk j).1 ≤ 0 ∧ 0 ≤ (bk j).2 := by unfold bk; (repeat' split) <;> decide
theorem bz_0 (j : Nat) : (bz j).1 ≤ 0 ∧ 0 ≤ (bz j).2 := by unfold bz; (repeat' split) <;> first | decide | exact bk_0 _
theorem bf_0 (j : Nat) : (bf j).1 ≤ 0 ∧ 0 ≤ (bf j).2 := by unfold bf; split <;> first | decide | exact bz_0 _
def zP (p : Int × Int) : Prop := p.1 ≤ 0 ∧ 0 ≤ p.2
theorem zP_i {c : Prop} {d : Decidable c} {a b : Int × Int} (ha : zP a) (hb : zP b) : zP (@ite _ c d a b) := by
  by_cases h : c
  · rw [if_pos h]; exact ha
  · rw [if_neg h]; exact hb
set_option maxRecDepth 20000 in
theorem s_b_0 (c k : Nat) : (s_b c k).1 ≤ 0 ∧ 0 ≤ (s_b c k).2 := by
  show zP (s_b c k)
  unfold s_b
  repeat' (first | exact bz_0 _ | exact bf_0 _ | exact bk_0 _ | refine zP_i ?_ ?_ | exact ⟨by decide, by decide⟩)
theorem m0_v (i k : Nat) : M0.1 i k = 0 ∨ (M0.1 i k = -1 ∧ (s_b (s_c i) k).1 ≤ -1 ∧ -1 ≤ (s_b (s_c i) k).2) := by
  by_cases h0 : i = 0
  · subst h0
    by_cases hk : k = 3
    · subst hk; right; exact ⟨rfl, by decide, by decide⟩
    · left; show (if k = 3 then (-1 : Int32) else 0) = 0; rw [if_neg hk]
  by_cases h1 : i = 51
  · subst h1
    by_cases hk : k = 2
    · subst hk; right; exact ⟨rfl, by decide, by decide⟩
    · left; show (if k = 2 then (-1 : Int32) else 0) = 0; rw [if_neg hk]
  by_cases h2 : i = 53
  · subst h2
    by_cases hk : k = 2
    · subst hk; right; exact ⟨rfl, by decide, by decide⟩
    · left; show (if k = 2 then (-1 : Int32) else 0) = 0; rw [if_neg hk]
  by_cases h3 : i = 55
  · subst h3
    by_cases hk : k = 2
    · subst hk; right; exact ⟨rfl, by decide, by decide⟩
    · left; show (if k = 2 then (-1 : Int32) else 0) = 0; rw [if_neg hk]
  by_cases h4 : i = 57
  · subst h4
    by_cases hk : k = 2
    · subst hk; right; exact ⟨rfl, by decide, by decide⟩
    · left; show (if k = 2 then (-1 : Int32) else 0) = 0; rw [if_neg hk]
  by_cases h5 : i = 78
  · subst h5
    by_cases hk : k = 6
    · subst hk; right; exact ⟨rfl, by decide, by decide⟩
    · left; show (if k = 6 then (-1 : Int32) else 0) = 0; rw [if_neg hk]
  by_cases h6 : i = 98
  · subst h6
    by_cases hk : k = 14
    · subst hk; right; exact ⟨rfl, by decide, by decide⟩
    · left; show (if k = 14 then (-1 : Int32) else 0) = 0; rw [if_neg hk]
  by_cases h7 : i = 115
  · subst h7
    have hb : ∀ k, s_b (s_c 115) k = (-1, 3) := fun k => rfl
    rw [hb]
    by_cases hk0 : k = 0
    · subst hk0; right; exact ⟨rfl, by decide, by decide⟩
    by_cases hk1 : k = 1
    · subst hk1; right; exact ⟨rfl, by decide, by decide⟩
    by_cases hk2 : k = 2
    · subst hk2; right; exact ⟨rfl, by decide, by decide⟩
    by_cases hk3 : k = 3
    · subst hk3; right; exact ⟨rfl, by decide, by decide⟩
    left; show (if k = 0 then (-1 : Int32) else (if k = 1 then (-1) else (if k = 2 then (-1) else (if k = 3 then (-1) else 0)))) = 0
    rw [if_neg hk0, if_neg hk1, if_neg hk2, if_neg hk3]
  left
  unfold M0
  simp only [if_neg h0, if_neg h1, if_neg h2, if_neg h3, if_neg h4, if_neg h5, if_neg h6, if_neg h7]
theorem m0_m : ∀ i, i < 118 → ∀ k, k < 16 → s_m (s_c i) k ≠ 0 → s_c (s_p0 i k) = s_m (s_c i) k := by decide +kernel
theorem m0_mk (c k : Nat) (h : 16 ≤ k) : s_m c k = 0 := by
  unfold s_m
  (repeat' split) <;> first | rfl | omega
theorem m0_mc (k : Nat) : s_m 999 k = 0 := by
  unfold s_m
  (repeat' split) <;> first | rfl | omega
theorem li0_M0 : LI0 M0 := by
  refine ⟨⟨fun i k => ?_, fun i k h => rfl, fun i k h => ?_⟩, b01_i (fun c o hc => ?_), b01_i (fun j hj => ?_)⟩
  · have hb := s_b_0 (s_c i) k
    rcases m0_v i k with h | ⟨h, h1, h2⟩
    · rw [h]; exact hb
    · rw [h]; exact ⟨h1, h2⟩
  · have e : M0.2.2 i k = s_p0 i k := rfl
    rw [e]
    by_cases hi : i < mm_N
    · by_cases hk : k < 16
      · exact m0_m i hi k hk h
      · exact absurd (m0_mk _ k (by omega)) h
    · rw [s_c_out hi] at h; exact absurd (m0_mc k) h
  · rcases ppQ_c hc with rfl | rfl
    · show (0 : Int32).toInt < pw2 (0 : Int32).toInt; decide
    · show (0 : Int32).toInt < pw2 (0 : Int32).toInt; decide
  · show zwB (fun _ => (0 : Int32))
    have z : ∀ l, zwL (fun _ => (0 : Int32)) l := fun l => ⟨by show (0 : Int32).toInt + (0 : Int32).toInt ≤ 900; decide, fun i hi => absurd hi (by show ¬ (i : Int) < (0 : Int32).toInt; have : (0 : Int32).toInt = 0 := rfl; omega), Or.inl rfl⟩
    exact ⟨z 0, z 1⟩
theorem li_M0 : LI M0 := by
  refine ⟨li0_M0, ?_, ?_, fun q hq => ?_, fun k hk => ?_, ?_⟩
  · unfold T1; decide
  · unfold T2; decide
  · unfold TR
    left
    rcases (show q = 0 ∨ q = 1 ∨ q = 2 ∨ q = 3 by omega) with rfl | rfl | rfl | rfl <;> decide
  · exact absurd hk (by show ¬ (k : Int) < (M0.1 0 1).toInt; have : (M0.1 0 1).toInt = 0 := by decide
                        omega)
  · unfold T5; decide
/-! the fresh memory, M1 -/
theorem m0_99 (k : Nat) : M0.1 99 k = 0 := by
  rcases m0_v 99 k with h | ⟨h, h1, _⟩
  · exact h
  · exfalso
    have e : M0.1 99 k = 0 := rfl
    rw [e] at h; exact absurd h (by decide)
theorem cts_M0 : CTS M0 2 (M0.1 99) (17 * 0) := by
  have z : ∀ k, (M0.1 99 k).toInt = 0 := fun k => by rw [m0_99]; rfl
  have k0 : ∀ k, M0.1 99 k = 0 := m0_99
  refine ⟨⟨⟨⟨⟨⟨rfl, rfl, fun b b0 b1 => absurd b1 (by rw [z]; omega), ⟨by rw [z]; exact ⟨fun _ => rfl, fun _ => by decide⟩, fun q => absurd (z _) q⟩, ⟨by rw [z]; exact ⟨fun _ => rfl, fun _ => by decide⟩, fun q => absurd (z _) q⟩⟩, ⟨⟨rfl, rfl, rfl, rfl, rfl, rfl⟩, fun k a b => absurd b (by rw [z]; omega)⟩⟩, ⟨by rw [z]; decide, by rw [z]; decide, by rw [z]; decide, by rw [z]; decide⟩⟩, ⟨⟨Or.inl rfl, Or.inl rfl, Or.inl rfl, fun b b0 b1 => absurd b1 (by show ¬ b < (M0.1 2 0).toInt; rw [show (M0.1 2 0).toInt = 0 from rfl]; omega)⟩, ⟨Or.inl rfl, Or.inl rfl⟩⟩, ⟨fun b b0 b1 => absurd b1 (by rw [z]; omega), ⟨fun k a b => absurd b (by show ¬ k < (M0.1 99 (26 + 0)).toInt; rw [z]; omega), by show 0 ≤ (M0.1 99 (26 + 4)).toInt; rw [z]; decide, by show (M0.1 99 (26 + 4)).toInt ≤ 17 * 0; rw [z]; decide⟩⟩⟩, fun k b o w _ _ _ _ => Or.inl rfl⟩, ⟨⟨⟨by rw [z]; rfl, by rw [z]; decide, by decide, by decide⟩, fun i hi => absurd hi (by rw [z]; omega), fun i hi => absurd hi (by rw [z]; omega)⟩, fun i hi => absurd hi (by rw [z]; omega)⟩, Or.inl rfl, Or.inl rfl⟩
theorem lj_M0 : LJ 0 M0 := by
  refine ⟨li_M0, Or.inl ⟨rfl, rfl⟩, cts_M0, fun q hq j hj => ?_⟩
  exfalso
  rcases (show q = 0 ∨ q = 1 ∨ q = 2 ∨ q = 3 by omega) with rfl | rfl | rfl | rfl
  · rw [show (M0.1 (s_p0 50 0) 2).toInt = -1 by decide] at hj; omega
  · rw [show (M0.1 (s_p0 50 1) 2).toInt = -1 by decide] at hj; omega
  · rw [show (M0.1 (s_p0 50 2) 2).toInt = -1 by decide] at hj; omega
  · rw [show (M0.1 (s_p0 50 3) 2).toInt = -1 by decide] at hj; omega
end
section
theorem iX9_init_X9 : ∀ w ∈ wsX90, w ∈ wsX9_init := fun w h => List.mem_cons_of_mem _ (List.mem_append_right _ h)
theorem iX7_init_X7 : ∀ w ∈ wsX70, w ∈ wsX7_init := fun w h => List.mem_cons_of_mem _ (List.mem_append_right _ h)
theorem iX10_init_X10 : ∀ w ∈ wsX100, w ∈ wsX10_init := fun w h => List.mem_cons_of_mem _ (List.mem_append_right _ h)
theorem iX1_init_X1 : ∀ w ∈ wsX10, w ∈ wsX1_init := fun w h => List.mem_cons_of_mem _ (List.mem_append_right _ h)
theorem iX2_init_X2 : ∀ w ∈ wsX20, w ∈ wsX2_init := fun w h => List.mem_cons_of_mem _ (List.mem_append_left _ (List.mem_append_left _ (List.mem_append_right _ h)))
theorem iX2_init_X7 : ∀ w ∈ wsX70, w ∈ wsX2_init := fun w h => List.mem_cons_of_mem _ (List.mem_append_left _ (List.mem_append_right _ h))
theorem hdcX7_init : yX7_init.cls ≠ "java/lang/invoke/MethodHandle" ∧ yX7_init.cls ≠ "java/lang/invoke/VarHandle" ∧ (parseMethodDescriptor yX7_init.desc).map (fun d => d.parameters.length) = some 0 := by decide +kernel
theorem iX2_init_X9 : ∀ w ∈ wsX90, w ∈ wsX2_init := fun w h => List.mem_cons_of_mem _ (List.mem_append_right _ h)
theorem hdcX9_init : yX9_init.cls ≠ "java/lang/invoke/MethodHandle" ∧ yX9_init.cls ≠ "java/lang/invoke/VarHandle" ∧ (parseMethodDescriptor yX9_init.desc).map (fun d => d.parameters.length) = some 0 := by decide +kernel
theorem iX6_init_X6 : ∀ w ∈ wsX60, w ∈ wsX6_init := fun w h => List.mem_cons_of_mem _ (List.mem_append_left _ (List.mem_append_right _ h))
theorem iX6_init_X9 : ∀ w ∈ wsX90, w ∈ wsX6_init := fun w h => List.mem_cons_of_mem _ (List.mem_append_right _ h)
theorem iX8_init_X8 : ∀ w ∈ wsX80, w ∈ wsX8_init := fun w h => List.mem_cons_of_mem _ (List.mem_append_right _ h)
theorem iX4_init_X4 : ∀ w ∈ wsX40, w ∈ wsX4_init := fun w h => List.mem_cons_of_mem _ (List.mem_append_right _ h)
theorem iX5_init_X5 : ∀ w ∈ wsX50, w ∈ wsX5_init := fun w h => List.mem_cons_of_mem _ (List.mem_append_right _ h)
theorem iX0_init_X0 : ∀ w ∈ wsX00, w ∈ wsX0_init := fun w h => List.mem_cons_of_mem _ (List.mem_append_right _ h)
theorem iX12_init_X12 : ∀ w ∈ wsX120, w ∈ wsX12_init := fun w h => List.mem_cons_of_mem _ (List.mem_append_right _ h)
theorem hdcX12_plain : yX12_plain.cls ≠ "java/lang/invoke/MethodHandle" ∧ yX12_plain.cls ≠ "java/lang/invoke/VarHandle" ∧ (parseMethodDescriptor yX12_plain.desc).map (fun d => d.parameters.length) = some 1 := by decide +kernel
theorem iX11_init_X11 : ∀ w ∈ wsX110, w ∈ wsX11_init := fun w h => List.mem_cons_of_mem _ (List.mem_append_left _ (List.mem_append_left _ (List.mem_append_left _ (List.mem_append_left _ (List.mem_append_left _ (List.mem_append_left _ (List.mem_append_left _ (List.mem_append_left _ (List.mem_append_left _ (List.mem_append_left _ (List.mem_append_right _ h)))))))))))
theorem iX11_init_X7 : ∀ w ∈ wsX70, w ∈ wsX11_init := fun w h => List.mem_cons_of_mem _ (List.mem_append_left _ (List.mem_append_left _ (List.mem_append_left _ (List.mem_append_left _ (List.mem_append_left _ (List.mem_append_left _ (List.mem_append_left _ (List.mem_append_left _ (List.mem_append_left _ (List.mem_append_right _ h))))))))))
theorem iX11_init_X9 : ∀ w ∈ wsX90, w ∈ wsX11_init := fun w h => List.mem_cons_of_mem _ (List.mem_append_left _ (List.mem_append_left _ (List.mem_append_left _ (List.mem_append_left _ (List.mem_append_left _ (List.mem_append_left _ (List.mem_append_left _ (List.mem_append_left _ (List.mem_append_right _ h)))))))))
theorem iX11_init_X6 : ∀ w ∈ wsX60, w ∈ wsX11_init := fun w h => List.mem_cons_of_mem _ (List.mem_append_left _ (List.mem_append_left _ (List.mem_append_left _ (List.mem_append_left _ (List.mem_append_left _ (List.mem_append_left _ (List.mem_append_left _ (List.mem_append_right _ h))))))))
theorem hdcX6_init : yX6_init.cls ≠ "java/lang/invoke/MethodHandle" ∧ yX6_init.cls ≠ "java/lang/invoke/VarHandle" ∧ (parseMethodDescriptor yX6_init.desc).map (fun d => d.parameters.length) = some 0 := by decide +kernel
theorem iX11_init_X8 : ∀ w ∈ wsX80, w ∈ wsX11_init := fun w h => List.mem_cons_of_mem _ (List.mem_append_left _ (List.mem_append_left _ (List.mem_append_left _ (List.mem_append_left _ (List.mem_append_left _ (List.mem_append_left _ (List.mem_append_right _ h)))))))
theorem hdcX8_init : yX8_init.cls ≠ "java/lang/invoke/MethodHandle" ∧ yX8_init.cls ≠ "java/lang/invoke/VarHandle" ∧ (parseMethodDescriptor yX8_init.desc).map (fun d => d.parameters.length) = some 2 := by decide +kernel
theorem iX11_init_X4 : ∀ w ∈ wsX40, w ∈ wsX11_init := fun w h => List.mem_cons_of_mem _ (List.mem_append_left _ (List.mem_append_left _ (List.mem_append_left _ (List.mem_append_left _ (List.mem_append_left _ (List.mem_append_right _ h))))))
theorem hdcX4_init : yX4_init.cls ≠ "java/lang/invoke/MethodHandle" ∧ yX4_init.cls ≠ "java/lang/invoke/VarHandle" ∧ (parseMethodDescriptor yX4_init.desc).map (fun d => d.parameters.length) = some 1 := by decide +kernel
theorem iX11_init_X1 : ∀ w ∈ wsX10, w ∈ wsX11_init := fun w h => List.mem_cons_of_mem _ (List.mem_append_left _ (List.mem_append_left _ (List.mem_append_left _ (List.mem_append_left _ (List.mem_append_right _ h)))))
theorem hdcX1_init : yX1_init.cls ≠ "java/lang/invoke/MethodHandle" ∧ yX1_init.cls ≠ "java/lang/invoke/VarHandle" ∧ (parseMethodDescriptor yX1_init.desc).map (fun d => d.parameters.length) = some 1 := by decide +kernel
theorem iX11_init_X5 : ∀ w ∈ wsX50, w ∈ wsX11_init := fun w h => List.mem_cons_of_mem _ (List.mem_append_left _ (List.mem_append_left _ (List.mem_append_left _ (List.mem_append_right _ h))))
theorem hdcX5_init : yX5_init.cls ≠ "java/lang/invoke/MethodHandle" ∧ yX5_init.cls ≠ "java/lang/invoke/VarHandle" ∧ (parseMethodDescriptor yX5_init.desc).map (fun d => d.parameters.length) = some 3 := by decide +kernel
theorem iX11_init_X0 : ∀ w ∈ wsX00, w ∈ wsX11_init := fun w h => List.mem_cons_of_mem _ (List.mem_append_left _ (List.mem_append_left _ (List.mem_append_right _ h)))
theorem hdcX0_init : yX0_init.cls ≠ "java/lang/invoke/MethodHandle" ∧ yX0_init.cls ≠ "java/lang/invoke/VarHandle" ∧ (parseMethodDescriptor yX0_init.desc).map (fun d => d.parameters.length) = some 1 := by decide +kernel
theorem iX11_init_X10 : ∀ w ∈ wsX100, w ∈ wsX11_init := fun w h => List.mem_cons_of_mem _ (List.mem_append_left _ (List.mem_append_right _ h))
theorem hdcX10_init : yX10_init.cls ≠ "java/lang/invoke/MethodHandle" ∧ yX10_init.cls ≠ "java/lang/invoke/VarHandle" ∧ (parseMethodDescriptor yX10_init.desc).map (fun d => d.parameters.length) = some 0 := by decide +kernel
theorem iX11_init_X2 : ∀ w ∈ wsX20, w ∈ wsX11_init := fun w h => List.mem_cons_of_mem _ (List.mem_append_right _ h)
theorem hdcX2_init : yX2_init.cls ≠ "java/lang/invoke/MethodHandle" ∧ yX2_init.cls ≠ "java/lang/invoke/VarHandle" ∧ (parseMethodDescriptor yX2_init.desc).map (fun d => d.parameters.length) = some 0 := by decide +kernel
end
