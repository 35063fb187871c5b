section
set_option maxRecDepth 100000 in
set_option maxHeartbeats 4000000 in
theorem st_el0 : ∀ j, j < 12 → (Cond.eq (.elem (Term.field (Term.string RX3 23) "java/lang/String" "value" "[B") (.int (Int32.ofNat j))) (.int ((js_byt 0).getD j 0))) ∈ flatC (Jvm.Cond.and given_1 narrow_1) := by decide +kernel
set_option maxRecDepth 100000 in
set_option maxHeartbeats 4000000 in
theorem st_of0 {s : State} {b : Nat} {A : Nat → Prop} (hgv : (Jvm.Cond.and given_1 narrow_1).before #[Value.ref b] s = true) (hr : (Cond.stringRef RX3 23 (js_tx 0)).before #[Value.ref b] s = true) (hA : ∀ a : Nat, a < s.heap.size → ¬ A a) : ∃ k v : Nat, vk_S 1 [js_len 0] [js_byt 0] (fun _ => k) (fun _ => v) A s s.heap ∧ vk_R (js_own 0) (js_ix 0) (js_tx 0) k s := by
  have hs := flat_of_before _ hgv
  have z0 : ∀ z : Nat, z < 1 → z = 0 := fun z hz => by omega
  have g1 : ∀ z : Nat, z < 1 → ([js_len 0] : List Nat).getD z 0 < 2 ^ 31 := fun z hz => by rw [z0 z hz]; decide
  have g2 : ∀ z : Nat, z < 1 → (Cond.exactly (Term.string RX3 23) "java/lang/String").before #[Value.ref b] s = true := fun _ _ => hs _ (by decide +kernel)
  have g3 : ∀ z : Nat, z < 1 → (Cond.eq (.field (Term.string RX3 23) "java/lang/String" "coder" "B") (.int 0)).before #[Value.ref b] s = true := fun _ _ => hs _ (by decide +kernel)
  have g4 : ∀ z : Nat, z < 1 → (Cond.arrayOf (Term.field (Term.string RX3 23) "java/lang/String" "value" "[B") .byte).before #[Value.ref b] s = true := fun _ _ => hs _ (by decide +kernel)
  have g5 : ∀ z : Nat, z < 1 → (Cond.eq (.length (Term.field (Term.string RX3 23) "java/lang/String" "value" "[B")) (.int (Int32.ofNat (([js_len 0] : List Nat).getD z 0)))).before #[Value.ref b] s = true := fun z hz => by
    rw [z0 z hz]; exact hs _ (by decide +kernel)
  have g6 : ∀ z : Nat, z < 1 → ∀ j : Nat, j < ([js_len 0] : List Nat).getD z 0 → (Cond.eq (.elem (Term.field (Term.string RX3 23) "java/lang/String" "value" "[B") (.int (Int32.ofNat j))) (.int ((([js_byt 0] : List (List Int32)).getD z []).getD j 0))).before #[Value.ref b] s = true := fun z hz j hj => by
    rw [z0 z hz] at hj ⊢; exact hs _ (st_el0 j hj)
  obtain ⟨aK, aV, h1, h2⟩ := vk_Sof (N := 1) (tm := fun _ => (Term.string RX3 23)) (len := [js_len 0]) (byt := [js_byt 0]) (A := A) (args := #[Value.ref b]) (s := s) g1 g2 g3 g4 g5 g6 (fun a c ha hc hne => absurd (show a = c by omega) hne) hA
  refine ⟨aK 0, aV 0, ⟨fun z hz => ?_, fun a c ha hc _ => by omega⟩, vk_R.of hr (h2 0 (by decide))⟩
  rw [z0 z hz]
  exact h1.1 0 (by decide)
end
section
set_option maxRecDepth 100000 in
set_option maxHeartbeats 4000000 in
theorem st_el1 : ∀ j, j < 119 → (Cond.eq (.elem (Term.field (Term.string RX3 31) "java/lang/String" "value" "[B") (.int (Int32.ofNat j))) (.int ((js_byt 1).getD j 0))) ∈ flatC (Jvm.Cond.and given_1 narrow_1) := by decide +kernel
set_option maxRecDepth 100000 in
set_option maxHeartbeats 4000000 in
theorem st_of1 {s : State} {b : Nat} {A : Nat → Prop} (hgv : (Jvm.Cond.and given_1 narrow_1).before #[Value.ref b] s = true) (hr : (Cond.stringRef RX3 31 (js_tx 1)).before #[Value.ref b] s = true) (hA : ∀ a : Nat, a < s.heap.size → ¬ A a) : ∃ k v : Nat, vk_S 1 [js_len 1] [js_byt 1] (fun _ => k) (fun _ => v) A s s.heap ∧ vk_R (js_own 1) (js_ix 1) (js_tx 1) k s := by
  have hs := flat_of_before _ hgv
  have z0 : ∀ z : Nat, z < 1 → z = 0 := fun z hz => by omega
  have g1 : ∀ z : Nat, z < 1 → ([js_len 1] : List Nat).getD z 0 < 2 ^ 31 := fun z hz => by rw [z0 z hz]; decide
  have g2 : ∀ z : Nat, z < 1 → (Cond.exactly (Term.string RX3 31) "java/lang/String").before #[Value.ref b] s = true := fun _ _ => hs _ (by decide +kernel)
  have g3 : ∀ z : Nat, z < 1 → (Cond.eq (.field (Term.string RX3 31) "java/lang/String" "coder" "B") (.int 0)).before #[Value.ref b] s = true := fun _ _ => hs _ (by decide +kernel)
  have g4 : ∀ z : Nat, z < 1 → (Cond.arrayOf (Term.field (Term.string RX3 31) "java/lang/String" "value" "[B") .byte).before #[Value.ref b] s = true := fun _ _ => hs _ (by decide +kernel)
  have g5 : ∀ z : Nat, z < 1 → (Cond.eq (.length (Term.field (Term.string RX3 31) "java/lang/String" "value" "[B")) (.int (Int32.ofNat (([js_len 1] : List Nat).getD z 0)))).before #[Value.ref b] s = true := fun z hz => by
    rw [z0 z hz]; exact hs _ (by decide +kernel)
  have g6 : ∀ z : Nat, z < 1 → ∀ j : Nat, j < ([js_len 1] : List Nat).getD z 0 → (Cond.eq (.elem (Term.field (Term.string RX3 31) "java/lang/String" "value" "[B") (.int (Int32.ofNat j))) (.int ((([js_byt 1] : List (List Int32)).getD z []).getD j 0))).before #[Value.ref b] s = true := fun z hz j hj => by
    rw [z0 z hz] at hj ⊢; exact hs _ (st_el1 j hj)
  obtain ⟨aK, aV, h1, h2⟩ := vk_Sof (N := 1) (tm := fun _ => (Term.string RX3 31)) (len := [js_len 1]) (byt := [js_byt 1]) (A := A) (args := #[Value.ref b]) (s := s) g1 g2 g3 g4 g5 g6 (fun a c ha hc hne => absurd (show a = c by omega) hne) hA
  refine ⟨aK 0, aV 0, ⟨fun z hz => ?_, fun a c ha hc _ => by omega⟩, vk_R.of hr (h2 0 (by decide))⟩
  rw [z0 z hz]
  exact h1.1 0 (by decide)
end
section
set_option maxRecDepth 100000 in
set_option maxHeartbeats 4000000 in
theorem st_ep2 : ∀ j, j < 88 → (flatC (Jvm.Cond.and given_1 narrow_1))[153 + j]? = some (Cond.eq (.elem (Term.field (Term.string RX12 86) "java/lang/String" "value" "[B") (.int (Int32.ofNat j))) (.int ((js_byt 2).getD j 0))) := by decide +kernel
theorem st_el2 (j : Nat) (hj : j < 88) : (Cond.eq (.elem (Term.field (Term.string RX12 86) "java/lang/String" "value" "[B") (.int (Int32.ofNat j))) (.int ((js_byt 2).getD j 0))) ∈ flatC (Jvm.Cond.and given_1 narrow_1) := List.mem_of_getElem? (st_ep2 j hj)
set_option maxRecDepth 100000 in
set_option maxHeartbeats 4000000 in
theorem st_of2 {s : State} {b : Nat} {A : Nat → Prop} (hgv : (Jvm.Cond.and given_1 narrow_1).before #[Value.ref b] s = true) (hr : (Cond.stringRef RX12 86 (js_tx 2)).before #[Value.ref b] s = true) (hA : ∀ a : Nat, a < s.heap.size → ¬ A a) : ∃ k v : Nat, vk_S 1 [js_len 2] [js_byt 2] (fun _ => k) (fun _ => v) A s s.heap ∧ vk_R (js_own 2) (js_ix 2) (js_tx 2) k s := by
  have hs := flat_of_before _ hgv
  have z0 : ∀ z : Nat, z < 1 → z = 0 := fun z hz => by omega
  have g1 : ∀ z : Nat, z < 1 → ([js_len 2] : List Nat).getD z 0 < 2 ^ 31 := fun z hz => by rw [z0 z hz]; decide
  have g2 : ∀ z : Nat, z < 1 → (Cond.exactly (Term.string RX12 86) "java/lang/String").before #[Value.ref b] s = true := fun _ _ => hs _ (by decide +kernel)
  have g3 : ∀ z : Nat, z < 1 → (Cond.eq (.field (Term.string RX12 86) "java/lang/String" "coder" "B") (.int 0)).before #[Value.ref b] s = true := fun _ _ => hs _ (by decide +kernel)
  have g4 : ∀ z : Nat, z < 1 → (Cond.arrayOf (Term.field (Term.string RX12 86) "java/lang/String" "value" "[B") .byte).before #[Value.ref b] s = true := fun _ _ => hs _ (by decide +kernel)
  have g5 : ∀ z : Nat, z < 1 → (Cond.eq (.length (Term.field (Term.string RX12 86) "java/lang/String" "value" "[B")) (.int (Int32.ofNat (([js_len 2] : List Nat).getD z 0)))).before #[Value.ref b] s = true := fun z hz => by
    rw [z0 z hz]; exact hs _ (by decide +kernel)
  have g6 : ∀ z : Nat, z < 1 → ∀ j : Nat, j < ([js_len 2] : List Nat).getD z 0 → (Cond.eq (.elem (Term.field (Term.string RX12 86) "java/lang/String" "value" "[B") (.int (Int32.ofNat j))) (.int ((([js_byt 2] : List (List Int32)).getD z []).getD j 0))).before #[Value.ref b] s = true := fun z hz j hj => by
    rw [z0 z hz] at hj ⊢; exact hs _ (st_el2 j hj)
  obtain ⟨aK, aV, h1, h2⟩ := vk_Sof (N := 1) (tm := fun _ => (Term.string RX12 86)) (len := [js_len 2]) (byt := [js_byt 2]) (A := A) (args := #[Value.ref b]) (s := s) g1 g2 g3 g4 g5 g6 (fun a c ha hc hne => absurd (show a = c by omega) hne) hA
  refine ⟨aK 0, aV 0, ⟨fun z hz => ?_, fun a c ha hc _ => by omega⟩, vk_R.of hr (h2 0 (by decide))⟩
  rw [z0 z hz]
  exact h1.1 0 (by decide)
end
section
set_option maxRecDepth 100000 in
set_option maxHeartbeats 4000000 in
theorem st_ep3 : ∀ j, j < 12 → (flatC (Jvm.Cond.and given_1 narrow_1))[247 + j]? = some (Cond.eq (.elem (Term.field (Term.string RX12 124) "java/lang/String" "value" "[B") (.int (Int32.ofNat j))) (.int ((js_byt 3).getD j 0))) := by decide +kernel
theorem st_el3 (j : Nat) (hj : j < 12) : (Cond.eq (.elem (Term.field (Term.string RX12 124) "java/lang/String" "value" "[B") (.int (Int32.ofNat j))) (.int ((js_byt 3).getD j 0))) ∈ flatC (Jvm.Cond.and given_1 narrow_1) := List.mem_of_getElem? (st_ep3 j hj)
set_option maxRecDepth 100000 in
set_option maxHeartbeats 4000000 in
theorem st_of3 {s : State} {b : Nat} {A : Nat → Prop} (hgv : (Jvm.Cond.and given_1 narrow_1).before #[Value.ref b] s = true) (hr : (Cond.stringRef RX12 124 (js_tx 3)).before #[Value.ref b] s = true) (hA : ∀ a : Nat, a < s.heap.size → ¬ A a) : ∃ k v : Nat, vk_S 1 [js_len 3] [js_byt 3] (fun _ => k) (fun _ => v) A s s.heap ∧ vk_R (js_own 3) (js_ix 3) (js_tx 3) k s := by
  have hs := flat_of_before _ hgv
  have z0 : ∀ z : Nat, z < 1 → z = 0 := fun z hz => by omega
  have g1 : ∀ z : Nat, z < 1 → ([js_len 3] : List Nat).getD z 0 < 2 ^ 31 := fun z hz => by rw [z0 z hz]; decide
  have g2 : ∀ z : Nat, z < 1 → (Cond.exactly (Term.string RX12 124) "java/lang/String").before #[Value.ref b] s = true := fun _ _ => hs _ (by decide +kernel)
  have g3 : ∀ z : Nat, z < 1 → (Cond.eq (.field (Term.string RX12 124) "java/lang/String" "coder" "B") (.int 0)).before #[Value.ref b] s = true := fun _ _ => hs _ (by decide +kernel)
  have g4 : ∀ z : Nat, z < 1 → (Cond.arrayOf (Term.field (Term.string RX12 124) "java/lang/String" "value" "[B") .byte).before #[Value.ref b] s = true := fun _ _ => hs _ (by decide +kernel)
  have g5 : ∀ z : Nat, z < 1 → (Cond.eq (.length (Term.field (Term.string RX12 124) "java/lang/String" "value" "[B")) (.int (Int32.ofNat (([js_len 3] : List Nat).getD z 0)))).before #[Value.ref b] s = true := fun z hz => by
    rw [z0 z hz]; exact hs _ (by decide +kernel)
  have g6 : ∀ z : Nat, z < 1 → ∀ j : Nat, j < ([js_len 3] : List Nat).getD z 0 → (Cond.eq (.elem (Term.field (Term.string RX12 124) "java/lang/String" "value" "[B") (.int (Int32.ofNat j))) (.int ((([js_byt 3] : List (List Int32)).getD z []).getD j 0))).before #[Value.ref b] s = true := fun z hz j hj => by
    rw [z0 z hz] at hj ⊢; exact hs _ (st_el3 j hj)
  obtain ⟨aK, aV, h1, h2⟩ := vk_Sof (N := 1) (tm := fun _ => (Term.string RX12 124)) (len := [js_len 3]) (byt := [js_byt 3]) (A := A) (args := #[Value.ref b]) (s := s) g1 g2 g3 g4 g5 g6 (fun a c ha hc hne => absurd (show a = c by omega) hne) hA
  refine ⟨aK 0, aV 0, ⟨fun z hz => ?_, fun a c ha hc _ => by omega⟩, vk_R.of hr (h2 0 (by decide))⟩
  rw [z0 z hz]
  exact h1.1 0 (by decide)
end
