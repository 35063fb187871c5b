set_option maxHeartbeats 4000000 in
set_option maxRecDepth 100000 in
theorem lw_body {p : Program} {l : Launch} {e : Env} {s : State} {m : MethodId} {below : List Frame} {meth : Method} {c : Code} {b L : Nat} {xs : Nat → Int32} {Q : State → Prop} {dC : Nat → ClassId} {dI : Nat → Nat → Nat} {ad : Nat → Nat} {cA : Nat → ClassId} {A : Nat → Prop} (Cb : jj_C p room_1 s m #[Value.ref b] c 118 20643 code 4 RL [] dC dI ad cA A) (hts : ∀ w ∈ lw_tbl, w.before #[Value.ref b] s = true) (hL : L ≤ 3072) (hX : va_X b L xs s s.heap) (hbl : b < s.heap.size) (hbA : ¬ A b) (hret : ∀ (M : mm_M) (lv : List (Nat × Value)), jj p l e room_1 s m #[Value.ref b] below meth c 118 20643 Q 4 dC dI ad cA A M 1473 lv [.int 1]) : ∀ (n : Nat) (i : Int) (M : mm_M), (0 ≤ i ∧ i ≤ 3078 ∧ 3078 - i < n) → LJ i M → jj p l e room_1 s m #[Value.ref b] below meth c 118 20643 Q 4 dC dI ad cA A M 18 [(3, .int (sI i)), (2, .ref (ad 98)), (1, .ref (ad 0)), (0, .ref b)] [] := by
  intro n
  induction n with
  | zero => intro i M h; omega
  | succ n ih =>
    intro i M h hI
    refine j_iload_n Cb 0 3 dL_law_18 rfl rfl ?_
    refine j_aload_n Cb 3 0 dL_law_19 rfl rfl ?_
    refine j_slen Cb hX hbl hbA dL_law_20 ?_
    refine j_bipush Cb 6 dL_law_21 (by decide) ?_
    refine j_isub Cb dL_law_23 ?_
    refine z_icmp_gt Cb 1472 i ((L : Int) - 6) (sI_t (by omega)) (pk_sub_toInt (a := L) (b := 6) (by omega) (by decide)) dL_law_24 (by decide) (fun h1 => ?_) (fun h1 => ?_)
    · refine j_iconst Cb 1 dL_law_1472 (by decide) ?_
      exact hret _ _
    · have hfin : ∀ M : mm_M, LJ (i + 6) M → jj p l e room_1 s m #[Value.ref b] below meth c 118 20643 Q 4 dC dI ad cA A M 1466 [(3, .int (sI i)), (2, .ref (ad 98)), (1, .ref (ad 0)), (0, .ref b)] [] := by
        intro M hI
        refine y_iinc Cb 0 [(3, .int (sI (i + 6))), (2, .ref (ad 98)), (1, .ref (ad 0)), (0, .ref b)] dL_law_1466 rfl (by decide) rfl ?_
        refine j_goto Cb 18 dL_law_1469 (by decide) ?_
        exact ih (i + 6) M (by omega) hI
      refine j_aload_n Cb 3 0 dL_law_27 rfl rfl ?_
      refine j_iload_n Cb 0 3 dL_law_28 rfl rfl ?_
      refine y_sldx Cb hX hbl hbA hL (by omega) dL_law_29 ?_
      rw [sI_o]
      refine j_bipush Cb 63 dL_law_30 (by decide) ?_
      refine j_iand Cb dL_law_32 ?_
      obtain ⟨j, hj, ej⟩ := pk_andE (xs i.toNat) (m := 63) 6 (by decide)
      rw [ej]
      by_cases h44 : j < 44
      · rcases (show j = 0 ∨ j = 1 ∨ j = 2 ∨ j = 3 ∨ j = 4 ∨ j = 5 ∨ j = 6 ∨ j = 7 ∨ j = 8 ∨ j = 9 ∨ j = 10 ∨ j = 11 ∨ j = 12 ∨ j = 13 ∨ j = 14 ∨ j = 15 ∨ j = 16 ∨ j = 17 ∨ j = 18 ∨ j = 19 ∨ j = 20 ∨ j = 21 ∨ j = 22 ∨ j = 23 ∨ j = 24 ∨ j = 25 ∨ j = 26 ∨ j = 27 ∨ j = 28 ∨ j = 29 ∨ j = 30 ∨ j = 31 ∨ j = 32 ∨ j = 33 ∨ j = 34 ∨ j = 35 ∨ j = 36 ∨ j = 37 ∨ j = 38 ∨ j = 39 ∨ j = 40 ∨ j = 41 ∨ j = 42 ∨ j = 43 by omega) with rfl | rfl | rfl | rfl | rfl | rfl | rfl | rfl | rfl | rfl | rfl | rfl | rfl | rfl | rfl | rfl | rfl | rfl | rfl | rfl | rfl | rfl | rfl | rfl | rfl | rfl | rfl | rfl | rfl | rfl | rfl | rfl | rfl | rfl | rfl | rfl | rfl | rfl | rfl | rfl | rfl | rfl | rfl | rfl
        · refine j_tableIn Cb (off := 191) 224 dL_law_33 (by decide) (by decide) (by decide) (by decide) ?_
          exact lw_op0 Cb hts hL hX hbl hbA (by omega) hfin M hI
        · refine j_tableIn Cb (off := 254) 287 dL_law_33 (by decide) (by decide) (by decide) (by decide) ?_
          exact lw_op1 Cb hts hL hX hbl hbA (by omega) hfin M hI
        · refine j_tableIn Cb (off := 277) 310 dL_law_33 (by decide) (by decide) (by decide) (by decide) ?_
          exact lw_op2 Cb hts hL hX hbl hbA (by omega) hfin M hI
        · refine j_tableIn Cb (off := 300) 333 dL_law_33 (by decide) (by decide) (by decide) (by decide) ?_
          exact lw_op3 Cb hts hL hX hbl hbA (by omega) hfin M hI
        · refine j_tableIn Cb (off := 333) 366 dL_law_33 (by decide) (by decide) (by decide) (by decide) ?_
          exact lw_op4 Cb hts hL hX hbl hbA (by omega) hfin M hI
        · refine j_tableIn Cb (off := 366) 399 dL_law_33 (by decide) (by decide) (by decide) (by decide) ?_
          exact lw_op5 Cb hts hL hX hbl hbA (by omega) hfin M hI
        · refine j_tableIn Cb (off := 399) 432 dL_law_33 (by decide) (by decide) (by decide) (by decide) ?_
          exact lw_op6 Cb hts hL hX hbl hbA (by omega) hfin M hI
        · refine j_tableIn Cb (off := 422) 455 dL_law_33 (by decide) (by decide) (by decide) (by decide) ?_
          exact lw_op7 Cb hts hL hX hbl hbA (by omega) hfin M hI
        · refine j_tableIn Cb (off := 445) 478 dL_law_33 (by decide) (by decide) (by decide) (by decide) ?_
          exact lw_op8 Cb hts hL hX hbl hbA (by omega) hfin M hI
        · refine j_tableIn Cb (off := 468) 501 dL_law_33 (by decide) (by decide) (by decide) (by decide) ?_
          exact lw_op9 Cb hts hL hX hbl hbA (by omega) hfin M hI
        · refine j_tableIn Cb (off := 491) 524 dL_law_33 (by decide) (by decide) (by decide) (by decide) ?_
          exact lw_op10 Cb hts hL hX hbl hbA (by omega) hfin M hI
        · refine j_tableIn Cb (off := 524) 557 dL_law_33 (by decide) (by decide) (by decide) (by decide) ?_
          exact lw_op11 Cb hts hL hX hbl hbA (by omega) hfin M hI
        · refine j_tableIn Cb (off := 557) 590 dL_law_33 (by decide) (by decide) (by decide) (by decide) ?_
          exact lw_op12 Cb hts hL hX hbl hbA (by omega) hfin M hI
        · refine j_tableIn Cb (off := 580) 613 dL_law_33 (by decide) (by decide) (by decide) (by decide) ?_
          exact lw_op13 Cb hts hL hX hbl hbA (by omega) hfin M hI
        · refine j_tableIn Cb (off := 603) 636 dL_law_33 (by decide) (by decide) (by decide) (by decide) ?_
          exact lw_op14 Cb hts hL hX hbl hbA (by omega) hfin M hI
        · refine j_tableIn Cb (off := 636) 669 dL_law_33 (by decide) (by decide) (by decide) (by decide) ?_
          exact lw_op15 Cb hts hL hX hbl hbA (by omega) hfin M hI
        · refine j_tableIn Cb (off := 659) 692 dL_law_33 (by decide) (by decide) (by decide) (by decide) ?_
          exact lw_op16 Cb hts hL hX hbl hbA (by omega) hfin M hI
        · refine j_tableIn Cb (off := 692) 725 dL_law_33 (by decide) (by decide) (by decide) (by decide) ?_
          exact lw_op17 Cb hts hL hX hbl hbA (by omega) hfin M hI
        · refine j_tableIn Cb (off := 705) 738 dL_law_33 (by decide) (by decide) (by decide) (by decide) ?_
          exact lw_op18 Cb hts hL hX hbl hbA (by omega) hfin M hI
        · refine j_tableIn Cb (off := 728) 761 dL_law_33 (by decide) (by decide) (by decide) (by decide) ?_
          exact lw_op19 Cb hts hL hX hbl hbA (by omega) hfin M hI
        · refine j_tableIn Cb (off := 751) 784 dL_law_33 (by decide) (by decide) (by decide) (by decide) ?_
          exact lw_op20 Cb hts hL hX hbl hbA (by omega) hfin M hI
        · refine j_tableIn Cb (off := 764) 797 dL_law_33 (by decide) (by decide) (by decide) (by decide) ?_
          exact lw_op21 Cb hts hL hX hbl hbA (by omega) hfin M hI
        · refine j_tableIn Cb (off := 777) 810 dL_law_33 (by decide) (by decide) (by decide) (by decide) ?_
          exact lw_op22 Cb hts hL hX hbl hbA (by omega) hfin M hI
        · refine j_tableIn Cb (off := 790) 823 dL_law_33 (by decide) (by decide) (by decide) (by decide) ?_
          exact lw_op23 Cb hts hL hX hbl hbA (by omega) hfin M hI
        · refine j_tableIn Cb (off := 803) 836 dL_law_33 (by decide) (by decide) (by decide) (by decide) ?_
          exact lw_op24 Cb hts hL hX hbl hbA (by omega) hfin M hI
        · refine j_tableIn Cb (off := 836) 869 dL_law_33 (by decide) (by decide) (by decide) (by decide) ?_
          exact lw_op25 Cb hts hL hX hbl hbA (by omega) hfin M hI
        · refine j_tableIn Cb (off := 859) 892 dL_law_33 (by decide) (by decide) (by decide) (by decide) ?_
          exact lw_op26 Cb hts hL hX hbl hbA (by omega) hfin M hI
        · refine j_tableIn Cb (off := 902) 935 dL_law_33 (by decide) (by decide) (by decide) (by decide) ?_
          exact lw_op27 Cb hts hL hX hbl hbA (by omega) hfin M hI
        · refine j_tableIn Cb (off := 925) 958 dL_law_33 (by decide) (by decide) (by decide) (by decide) ?_
          exact lw_op28 Cb hts hL hX hbl hbA (by omega) hfin M hI
        · refine j_tableIn Cb (off := 968) 1001 dL_law_33 (by decide) (by decide) (by decide) (by decide) ?_
          exact lw_op29 Cb hts hL hX hbl hbA (by omega) hfin M hI
        · refine j_tableIn Cb (off := 1011) 1044 dL_law_33 (by decide) (by decide) (by decide) (by decide) ?_
          exact lw_op30 Cb hts hL hX hbl hbA (by omega) hfin M hI
        · refine j_tableIn Cb (off := 1034) 1067 dL_law_33 (by decide) (by decide) (by decide) (by decide) ?_
          exact lw_op31 Cb hts hL hX hbl hbA (by omega) hfin M hI
        · refine j_tableIn Cb (off := 1067) 1100 dL_law_33 (by decide) (by decide) (by decide) (by decide) ?_
          exact lw_op32 Cb hts hL hX hbl hbA (by omega) hfin M hI
        · refine j_tableIn Cb (off := 1100) 1133 dL_law_33 (by decide) (by decide) (by decide) (by decide) ?_
          exact lw_op33 Cb hts hL hX hbl hbA (by omega) hfin M hI
        · refine j_tableIn Cb (off := 1123) 1156 dL_law_33 (by decide) (by decide) (by decide) (by decide) ?_
          exact lw_op34 Cb hts hL hX hbl hbA (by omega) hfin M hI
        · refine j_tableIn Cb (off := 1146) 1179 dL_law_33 (by decide) (by decide) (by decide) (by decide) ?_
          exact lw_op35 Cb hts hL hX hbl hbA (by omega) hfin M hI
        · refine j_tableIn Cb (off := 1169) 1202 dL_law_33 (by decide) (by decide) (by decide) (by decide) ?_
          exact lw_op36 Cb hts hL hX hbl hbA (by omega) hfin M hI
        · refine j_tableIn Cb (off := 1192) 1225 dL_law_33 (by decide) (by decide) (by decide) (by decide) ?_
          exact lw_op37 Cb hts hL hX hbl hbA (by omega) hfin M hI
        · refine j_tableIn Cb (off := 1225) 1258 dL_law_33 (by decide) (by decide) (by decide) (by decide) ?_
          exact lw_op38 Cb hts hL hX hbl hbA (by omega) hfin M hI
        · refine j_tableIn Cb (off := 1268) 1301 dL_law_33 (by decide) (by decide) (by decide) (by decide) ?_
          exact lw_op39 Cb hts hL hX hbl hbA (by omega) hfin M hI
        · refine j_tableIn Cb (off := 1341) 1374 dL_law_33 (by decide) (by decide) (by decide) (by decide) ?_
          exact lw_op40 Cb hts hL hX hbl hbA (by omega) hfin M hI
        · refine j_tableIn Cb (off := 1364) 1397 dL_law_33 (by decide) (by decide) (by decide) (by decide) ?_
          exact lw_op41 Cb hts hL hX hbl hbA (by omega) hfin M hI
        · refine j_tableIn Cb (off := 1387) 1420 dL_law_33 (by decide) (by decide) (by decide) (by decide) ?_
          exact lw_op42 Cb hts hL hX hbl hbA (by omega) hfin M hI
        · refine j_tableIn Cb (off := 1410) 1443 dL_law_33 (by decide) (by decide) (by decide) (by decide) ?_
          exact lw_op43 Cb hts hL hX hbl hbA (by omega) hfin M hI
      · refine j_tableOut Cb 1466 dL_law_33 (Or.inr (by rw [nI_toInt (by omega)]; omega)) (by decide) ?_
        exact hfin M (lj_up hI)
